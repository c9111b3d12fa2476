section
/-! the words that the models are written in: all numbers of a world as one function -/
abbrev zS : Type := Nat → Nat → Int32
def zU (σ : zS) (k j : Nat) (v : Int32) : zS := fun i => if i = k then upd (σ i) j v else σ i
section ZM
/-! the words that the models are written in -/
variable {β : Type}
def zRt (v : Int32) (σ : zS) : Option (Int32 × zS) := some (v, σ)
def zRx (v : Int32) (σ : zS) : Option ((Int32 ⊕ Nat) × zS) := some (.inl v, σ)
def zTx (k : Nat) (σ : zS) : Option ((Int32 ⊕ Nat) × zS) := some (.inr k, σ)
def zLt {α : Type} (x : α) (f : α → Option β) : Option β := f x
def zRd (g : Nat → Int32) (i : Int32) (n : Nat) (f : Int32 → Option β) : Option β := if i < 0 ∨ n ≤ i.toNatClampNeg then none else f (g i.toNatClampNeg)
def zWr (σ : zS) (k : Nat) (i : Int32) (n : Nat) (v : Int32) (f : zS → Option β) : Option β := if i < 0 ∨ n ≤ i.toNatClampNeg then none else f (zU σ k i.toNatClampNeg v)
def zGd (c : Prop) [Decidable c] (x : Option β) : Option β := if c then x else none
def zBd (x : Option (Int32 × zS)) (f : Int32 → zS → Option β) : Option β := match x with
  | some (v, s) => f v s
  | none => none
def zBx (x : Option ((Int32 ⊕ Nat) × zS)) (f : Int32 → zS → Option ((Int32 ⊕ Nat) × zS)) : Option ((Int32 ⊕ Nat) × zS) := match x with
  | some (.inl v, s) => f v s
  | some (.inr k, s) => some (.inr k, s)
  | none => none
theorem zRt_of {v r : Int32} {σ σ' : zS} (h : zRt v σ = some (r, σ')) : (Sum.inl r : Int32 ⊕ Nat) = .inl v ∧ σ' = σ := by cases h; exact ⟨rfl, rfl⟩
theorem zRx_of {v : Int32} {res : Int32 ⊕ Nat} {σ σ' : zS} (h : zRx v σ = some (res, σ')) : res = .inl v ∧ σ' = σ := by cases h; exact ⟨rfl, rfl⟩
theorem zTx_of {k : Nat} {res : Int32 ⊕ Nat} {σ σ' : zS} (h : zTx k σ = some (res, σ')) : res = .inr k ∧ σ' = σ := by cases h; exact ⟨rfl, rfl⟩
theorem zLt_of {α : Type} {x : α} {f : α → Option β} {r : β} (h : zLt x f = some r) : ∃ y, y = x ∧ f y = some r := ⟨x, rfl, h⟩
theorem zRd_of {g : Nat → Int32} {i : Int32} {n : Nat} {f : Int32 → Option β} {r : β} (h : zRd g i n f = some r) : ∃ v, vp_in i n ∧ v = g i.toNatClampNeg ∧ f v = some r := by
  unfold zRd at h
  split at h
  · cases h
  · exact ⟨_, by assumption, rfl, h⟩
theorem zWr_of {σ : zS} {k : Nat} {i : Int32} {n : Nat} {v : Int32} {f : zS → Option β} {r : β} (h : zWr σ k i n v f = some r) : ∃ σ1, vp_in i n ∧ σ1 = zU σ k i.toNatClampNeg v ∧ f σ1 = some r := by
  unfold zWr at h
  split at h
  · cases h
  · exact ⟨_, by assumption, rfl, h⟩
theorem zGd_of {c : Prop} [Decidable c] {x : Option β} {r : β} (h : zGd c x = some r) : c ∧ x = some r := by
  unfold zGd at h
  split at h
  · exact ⟨by assumption, h⟩
  · cases h
theorem zBd_of {x : Option (Int32 × zS)} {f : Int32 → zS → Option β} {r : β} (h : zBd x f = some r) : ∃ v s, x = some (v, s) ∧ f v s = some r := by
  unfold zBd at h
  split at h
  · exact ⟨_, _, rfl, h⟩
  · cases h
theorem zBx_of {x : Option ((Int32 ⊕ Nat) × zS)} {f : Int32 → zS → Option ((Int32 ⊕ Nat) × zS)} {r : Int32 ⊕ Nat} {σ' : zS} (h : zBx x f = some (r, σ')) : (∃ v s, x = some (.inl v, s) ∧ f v s = some (r, σ')) ∨ (∃ k, x = some (.inr k, σ') ∧ r = .inr k) := by
  unfold zBx at h
  split at h
  · exact Or.inl ⟨_, _, rfl, h⟩
  · cases h; exact Or.inr ⟨_, rfl, rfl⟩
  · cases h
theorem zIt {c : Prop} [Decidable c] {a b : Option β} {r : β} (h : (if c then a else b) = some r) (hc : c) : a = some r := by rw [if_pos hc] at h; exact h
theorem zIf {c : Prop} [Decidable c] {a b : Option β} {r : β} (h : (if c then a else b) = some r) (hc : ¬ c) : b = some r := by rw [if_neg hc] at h; exact h
end ZM
def zSo (σ : zS) (o : Nat) : zS := fun k => σ (k + o)
def zMix (o n : Nat) (σ σ1 : zS) : zS := fun k => if o ≤ k ∧ k < o + n then σ1 (k - o) else σ k
def zHx {β : Type} (x : Option ((Int32 ⊕ Nat) × zS)) (g : Nat → zS → Option β) (f : Int32 → zS → Option β) : Option β := match x with
  | some (.inl v, s) => f v s
  | some (.inr k, s) => g k s
  | none => none
theorem zHx_of {β : Type} {x : Option ((Int32 ⊕ Nat) × zS)} {g : Nat → zS → Option β} {f : Int32 → zS → Option β} {r : β} (h : zHx x g f = some r) : (∃ v s, x = some (.inl v, s) ∧ f v s = some r) ∨ (∃ k s, x = some (.inr k, s) ∧ g k s = some r) := by
  unfold zHx at h
  split at h
  · exact Or.inl ⟨_, _, rfl, h⟩
  · exact Or.inr ⟨_, _, rfl, h⟩
  · cases h
end
section
def m_X0_now (n : Nat)  (s : zS) : Option (Int32 × zS) :=
  zRt (s 13 3) s
def m_X0_size (n : Nat)  (s : zS) : Option (Int32 × zS) :=
  zRt (s 13 2) s
def m_X7_at (n : Nat) (k N : Nat) (v1 : Int32) (s : zS) : Option (Int32 × zS) :=
  if v1 < 0 then (zRt (0 : Int32) s) else (if (Int32.ofNat N) ≤ v1 then (zRt (0 : Int32) s) else (zRd (s k) v1 N fun x3 => zRt x3 s))
def m_X0_leftAt (n : Nat) (v1 : Int32) (s : zS) : Option (Int32 × zS) :=
  zBd (m_X7_at n 14 8 v1 s) fun x1 s2 => zRt x1 s2
def m_X0_total_j4 (n : Nat) : Nat → Int32 → Int32 → zS → Option (Int32 × zS)
  | 0, _, _, _ => none
  | f + 1, v1, v2, s =>
    if (s 13 2) ≤ v2 then (zRt v1 s) else (zBd (m_X0_leftAt n v2 s) fun x2 s3 => zLt (v1 + x2) fun x4 => zLt (v2 + (1 : Int32)) fun x5 => m_X0_total_j4 n f x4 x5 s3)
def m_X0_total (n : Nat)  (s : zS) : Option (Int32 × zS) :=
  m_X0_total_j4  n n (0 : Int32) (0 : Int32) s
def m_X7_put (n : Nat) (k N : Nat) (v1 : Int32) (v2 : Int32) (s : zS) : Option (Int32 × zS) :=
  if v1 < 0 then (zRt 0 s) else (if (Int32.ofNat N) ≤ v1 then (zRt 0 s) else (zWr s k v1 N v2 fun s3 => zRt 0 s3))
def m_X0_move (n : Nat) (v1 : Int32) (v2 : Int32) (s : zS) : Option (Int32 × zS) :=
  zBd (m_X7_at n 14 8 v1 s) fun x1 s2 => zBd (m_X7_put n 14 8 v2 x1 s2) fun x3 s4 => zBd (m_X7_at n 15 8 v1 s4) fun x5 s6 => zBd (m_X7_put n 15 8 v2 x5 s6) fun x7 s8 => zRt 0 s8
def m_X0_add_j37 (n : Nat) (v1 : Int32) (v2 : Int32) (v3 : Int32) (s : zS) : Option (Int32 × zS) :=
  zBd (m_X7_put n 14 8 v3 v1 s) fun x1 s2 => zBd (m_X7_put n 15 8 v3 v2 s2) fun x3 s4 => zLt (zU s4 13 2 ((s4 13 2) + (1 : Int32))) fun s5 => zRt 0 s5
def m_X0_add_j5 (n : Nat) : Nat → Int32 → Int32 → Int32 → zS → Option (Int32 × zS)
  | 0, _, _, _, _ => none
  | f + 1, v1, v2, v3, s =>
    if v3 ≤ 0 then (m_X0_add_j37  n v1 v2 v3 s) else (zBd (m_X7_at n 15 8 (v3 - (1 : Int32)) s) fun x7 s8 => if x7 ≤ v2 then (m_X0_add_j37  n v1 v2 v3 s8) else (zBd (m_X0_move n (v3 - (1 : Int32)) v3 s8) fun x10 s11 => zLt (v3 + (-1 : Int32)) fun x12 => m_X0_add_j5 n f v1 v2 x12 s11))
def m_X0_add (n : Nat) (v1 : Int32) (v2 : Int32) (s : zS) : Option (Int32 × zS) :=
  zLt (s 13 2) fun x13 => m_X0_add_j5  n n v1 v2 x13 s
def m_X0_take_j4 (n : Nat) : Nat → Int32 → Int32 → Int32 → zS → Option (Int32 × zS)
  | 0, _, _, _, _ => none
  | f + 1, v1, v2, v3, s =>
    if (s 13 2) ≤ v3 then (zRt (v1 - v2) s) else (zBd (m_X0_leftAt n v3 s) fun x2 s3 => zLt (if x2 < v2 then x2 else v2) fun x4 => zBd (m_X0_leftAt n v3 s3) fun x5 s6 => zBd (m_X7_put n 14 8 v3 (x5 - x4) s6) fun x7 s8 => zLt (v2 - x4) fun x9 => zLt (v3 + (1 : Int32)) fun x10 => m_X0_take_j4 n f v1 x9 x10 s8)
def m_X0_take (n : Nat) (v1 : Int32) (s : zS) : Option (Int32 × zS) :=
  m_X0_take_j4  n n v1 v1 (0 : Int32) s
def m_X0_endYear_j4 (n : Nat) : Nat → Int32 → Int32 → zS → Option (Int32 × zS)
  | 0, _, _, _ => none
  | f + 1, v1, v2, s =>
    if (s 13 2) ≤ v2 then (zLt (zU s 13 2 v1) fun s2 => zLt (zU s2 13 3 ((s2 13 3) + (1 : Int32))) fun s3 => zRt 0 s3) else (zBd (m_X0_leftAt n v2 s) fun x4 s5 => if x4 ≤ 0 then (zLt (v2 + (1 : Int32)) fun x7 => m_X0_endYear_j4 n f v1 x7 s5) else (zBd (m_X7_at n 15 8 v2 s5) fun x8 s9 => if x8 ≤ (s9 13 3) then (zLt (v2 + (1 : Int32)) fun x11 => m_X0_endYear_j4 n f v1 x11 s9) else (zBd (m_X0_move n v2 v1 s9) fun x12 s13 => zLt (v1 + (1 : Int32)) fun x14 => zLt (v2 + (1 : Int32)) fun x15 => m_X0_endYear_j4 n f x14 x15 s13)))
def m_X0_endYear (n : Nat)  (s : zS) : Option (Int32 × zS) :=
  m_X0_endYear_j4  n n (0 : Int32) (0 : Int32) s
def m_X1_size (n : Nat)  (s : zS) : Option (Int32 × zS) :=
  zRt (s 10 2) s
def m_X1_clear (n : Nat)  (s : zS) : Option (Int32 × zS) :=
  zLt (zU s 10 2 (0 : Int32)) fun s1 => zRt 0 s1
def m_X1_placeFor_j2 (n : Nat) : Nat → Int32 → Int32 → zS → Option (Int32 × zS)
  | 0, _, _, _ => none
  | f + 1, v1, v2, s =>
    if (s 10 2) ≤ v2 then (zRt v2 s) else (zBd (m_X7_at n 11 5 v2 s) fun x2 s3 => if v1 ≤ x2 then (zRt v2 s3) else (zLt (v2 + (1 : Int32)) fun x5 => m_X1_placeFor_j2 n f v1 x5 s3))
def m_X1_placeFor (n : Nat) (v1 : Int32) (s : zS) : Option (Int32 × zS) :=
  m_X1_placeFor_j2  n n v1 (0 : Int32) s
def m_X1_isAt (n : Nat) (v1 : Int32) (v2 : Int32) (s : zS) : Option (Int32 × zS) :=
  if (s 10 2) ≤ v1 then (zRt (0 : Int32) s) else (zBd (m_X7_at n 11 5 v1 s) fun x2 s3 => if x2 = v2 then (zRt (1 : Int32) s3) else (zRt (0 : Int32) s3))
def m_X1_hasRoomFor (n : Nat) (v1 : Int32) (s : zS) : Option (Int32 × zS) :=
  if (s 10 2) < (5 : Int32) then (zRt (1 : Int32) s) else (zBd (m_X1_placeFor n v1 s) fun x2 s3 => zBd (m_X1_isAt n x2 v1 s3) fun x4 s5 => if x4 = 0 then (zRt (0 : Int32) s5) else (zRt (1 : Int32) s5))
def m_X1_set_j23 (n : Nat) : Nat → Int32 → Int32 → Int32 → Int32 → zS → Option (Int32 × zS)
  | 0, _, _, _, _, _ => none
  | f + 1, v1, v2, v3, v4, s =>
    if v4 < v3 then (zBd (m_X7_put n 11 5 v3 v1 s) fun x2 s3 => zLt (zU s3 10 2 ((s3 10 2) + (1 : Int32))) fun s4 => zBd (m_X7_put n 12 5 v3 v2 s4) fun x5 s6 => zRt 0 s6) else (zBd (m_X7_at n 11 5 v4 s) fun x7 s8 => zBd (m_X7_put n 11 5 (v4 + (1 : Int32)) x7 s8) fun x9 s10 => zBd (m_X7_at n 12 5 v4 s10) fun x11 s12 => zBd (m_X7_put n 12 5 (v4 + (1 : Int32)) x11 s12) fun x13 s14 => zLt (v4 + (-1 : Int32)) fun x15 => m_X1_set_j23 n f v1 v2 v3 x15 s14)
def m_X1_set (n : Nat) (v1 : Int32) (v2 : Int32) (s : zS) : Option (Int32 × zS) :=
  zBd (m_X1_placeFor n v1 s) fun x16 s17 => zBd (m_X1_isAt n x16 v1 s17) fun x18 s19 => if x18 = 0 then (zLt ((s19 10 2) - (1 : Int32)) fun x23 => m_X1_set_j23  n n v1 v2 x16 x23 s19) else (zBd (m_X7_put n 12 5 x16 v2 s19) fun x21 s22 => zRt 0 s22)
def m_X7_thousandths (n : Nat) (v0 : Int32) (v1 : Int32) (s : zS) : Option (Int32 × zS) :=
  zRt (Int64.toInt32 (((Int32.toInt64 v0) * (Int32.toInt64 v1)) / (1000 : Int64))) s
def m_X1_tax_j40 (rec4 : Int32 → Int32 → Int32 → zS → Option (Int32 × zS)) (n : Nat) (v1 : Int32) (v2 : Int32) (v3 : Int32) (t0 : Int32) (s : zS) : Option (Int32 × zS) :=
  zBd (m_X7_at n 11 5 v3 s) fun x1 s2 => zLt (if (t0 - x1) < (0 : Int32) then (0 : Int32) else (t0 - x1)) fun x3 => zBd (m_X7_at n 12 5 v3 s2) fun x4 s5 => zBd (m_X7_thousandths n x3 x4 s5) fun x6 s7 => zLt (v2 + x6) fun x8 => zLt (v3 + (1 : Int32)) fun x9 => rec4 v1 x8 x9 s7
def m_X1_tax_j4 (n : Nat) : Nat → Int32 → Int32 → Int32 → zS → Option (Int32 × zS)
  | 0, _, _, _, _ => none
  | f + 1, v1, v2, v3, s =>
    if (s 10 2) ≤ v3 then (zRt v2 s) else (if (s 10 2) ≤ (v3 + (1 : Int32)) then (m_X1_tax_j40 (m_X1_tax_j4 n f) n v1 v2 v3 v1 s) else (zBd (m_X7_at n 11 5 (v3 + (1 : Int32)) s) fun x12 s13 => m_X1_tax_j40 (m_X1_tax_j4 n f) n v1 v2 v3 (if x12 < v1 then x12 else v1) s13))
def m_X1_tax (n : Nat) (v1 : Int32) (s : zS) : Option (Int32 × zS) :=
  m_X1_tax_j4  n n v1 (0 : Int32) (0 : Int32) s
def m_X2_size (n : Nat)  (s : zS) : Option (Int32 × zS) :=
  zRt (s 16 4) s
def m_X2_add (n : Nat) (v1 : Int32) (v2 : Int32) (s : zS) : Option (Int32 × zS) :=
  zBd (m_X7_put n 17 5 (s 16 4) v1 s) fun x1 s2 => zBd (m_X7_put n 18 5 (s2 16 4) v2 s2) fun x3 s4 => zLt (zU s4 16 4 ((s4 16 4) + (1 : Int32))) fun s5 => zRt 0 s5
def m_X2_dropLast (n : Nat)  (s : zS) : Option (Int32 × zS) :=
  zLt (zU s 16 4 ((s 16 4) - (1 : Int32))) fun s1 => zRt 0 s1
def m_X2_total_j4 (n : Nat) : Nat → Int32 → Int32 → zS → Option (Int32 × zS)
  | 0, _, _, _ => none
  | f + 1, v1, v2, s =>
    if (s 16 4) ≤ v2 then (zRt v1 s) else (zBd (m_X7_at n 17 5 v2 s) fun x2 s3 => zLt (v1 + x2) fun x4 => zLt (v2 + (1 : Int32)) fun x5 => m_X2_total_j4 n f x4 x5 s3)
def m_X2_total (n : Nat)  (s : zS) : Option (Int32 × zS) :=
  m_X2_total_j4  n n (0 : Int32) (0 : Int32) s
def m_X2_bestAt (n : Nat) (v1 : Int32) (s : zS) : Option (Int32 × zS) :=
  zBd (m_X7_at n 20 5 v1 s) fun x1 s2 => zRt x1 s2
def m_X2_sumInOrder_j7 (n : Nat) : Nat → Int32 → Int32 → Int32 → zS → Option (Int32 × zS)
  | 0, _, _, _, _ => none
  | f + 1, v2, v3, v4, s =>
    if (s 16 4) ≤ v4 then (zRt v3 s) else (zBd (m_X7_at n 19 5 v4 s) fun x2 s3 => zBd (m_X7_at n 17 5 x2 s3) fun x4 s5 => zLt (if x4 < v2 then x4 else v2) fun x6 => zLt (v2 - x6) fun x7 => zBd (m_X7_at n 17 5 x2 s5) fun x8 s9 => zBd (m_X7_at n 18 5 x2 s9) fun x10 s11 => zBd (m_X7_thousandths n (x8 - x6) x10 s11) fun x12 s13 => zLt (v3 + (x6 + x12)) fun x14 => zLt (v4 + (1 : Int32)) fun x15 => m_X2_sumInOrder_j7 n f x7 x14 x15 s13)
def m_X2_sumInOrder (n : Nat) (v1 : Int32) (s : zS) : Option (Int32 × zS) :=
  m_X2_sumInOrder_j7  n n v1 (0 : Int32) (0 : Int32) s
def m_X2_keepOrder_j2 (n : Nat) : Nat → Int32 → zS → Option (Int32 × zS)
  | 0, _, _ => none
  | f + 1, v1, s =>
    if (s 16 4) ≤ v1 then (zRt 0 s) else (zBd (m_X7_at n 19 5 v1 s) fun x2 s3 => zBd (m_X7_put n 20 5 v1 x2 s3) fun x4 s5 => zLt (v1 + (1 : Int32)) fun x6 => m_X2_keepOrder_j2 n f x6 s5)
def m_X2_keepOrder (n : Nat)  (s : zS) : Option (Int32 × zS) :=
  m_X2_keepOrder_j2  n n (0 : Int32) s
def m_X2_swap (n : Nat) (v1 : Int32) (v2 : Int32) (s : zS) : Option (Int32 × zS) :=
  zBd (m_X7_at n 19 5 v1 s) fun x1 s2 => zBd (m_X7_at n 19 5 v2 s2) fun x3 s4 => zBd (m_X7_put n 19 5 v1 x3 s4) fun x5 s6 => zBd (m_X7_put n 19 5 v2 x1 s6) fun x7 s8 => zRt 0 s8
def m_X2_toNextOrder_j99 (n : Nat) : Nat → Int32 → Int32 → zS → Option (Int32 × zS)
  | 0, _, _, _ => none
  | f + 1, v3, v4, s =>
    if v4 ≤ v3 then (zRt (1 : Int32) s) else (zBd (m_X2_swap n v3 v4 s) fun x2 s3 => zLt (v3 + (1 : Int32)) fun x4 => zLt (v4 + (-1 : Int32)) fun x5 => m_X2_toNextOrder_j99 n f x4 x5 s3)
def m_X2_toNextOrder_j81 (n : Nat) (v1 : Int32) (v2 : Int32) (s : zS) : Option (Int32 × zS) :=
  zBd (m_X2_swap n v1 v2 s) fun x6 s7 => zLt (v1 + (1 : Int32)) fun x8 => zLt ((s7 16 4) - (1 : Int32)) fun x9 => m_X2_toNextOrder_j99  n n x8 x9 s7
def m_X2_toNextOrder_j51 (n : Nat) : Nat → Int32 → Int32 → zS → Option (Int32 × zS)
  | 0, _, _, _ => none
  | f + 1, v1, v2, s =>
    if v2 ≤ v1 then (m_X2_toNextOrder_j81  n v1 v2 s) else (zBd (m_X7_at n 19 5 v2 s) fun x11 s12 => zBd (m_X7_at n 19 5 v1 s12) fun x13 s14 => if x13 ≤ x11 then (m_X2_toNextOrder_j81  n v1 v2 s14) else (zLt (v2 + (-1 : Int32)) fun x16 => m_X2_toNextOrder_j51 n f v1 x16 s14))
def m_X2_toNextOrder_j38 (n : Nat) (v1 : Int32) (s : zS) : Option (Int32 × zS) :=
  if 0 ≤ v1 then (zLt ((s 16 4) - (1 : Int32)) fun x18 => m_X2_toNextOrder_j51  n n v1 x18 s) else (zRt (0 : Int32) s)
def m_X2_toNextOrder_j7 (n : Nat) : Nat → Int32 → zS → Option (Int32 × zS)
  | 0, _, _ => none
  | f + 1, v1, s =>
    if v1 < 0 then (m_X2_toNextOrder_j38  n v1 s) else (zBd (m_X7_at n 19 5 v1 s) fun x20 s21 => zBd (m_X7_at n 19 5 (v1 + (1 : Int32)) s21) fun x22 s23 => if x20 ≤ x22 then (m_X2_toNextOrder_j38  n v1 s23) else (zLt (v1 + (-1 : Int32)) fun x25 => m_X2_toNextOrder_j7 n f x25 s23))
def m_X2_toNextOrder (n : Nat)  (s : zS) : Option (Int32 × zS) :=
  zLt ((s 16 4) - (2 : Int32)) fun x26 => m_X2_toNextOrder_j7  n n x26 s
def m_X2_findBest_j29 (n : Nat) : Nat → Int32 → Int32 → Int32 → Int32 → zS → Option (Int32 × zS)
  | 0, _, _, _, _, _ => none
  | f + 1, v1, v2, v3, v4, s =>
    if (120 : Int32) ≤ v4 then (zRt v2 s) else (if v3 = 0 then (zRt v2 s) else (zBd (m_X2_sumInOrder n v1 s) fun x3 s4 => if x3 ≤ v2 then (zBd (m_X2_toNextOrder n s4) fun x6 s7 => zLt (v4 + (1 : Int32)) fun x8 => m_X2_findBest_j29 n f v1 v2 x6 x8 s7) else (zBd (m_X2_keepOrder n s4) fun x9 s10 => zBd (m_X2_toNextOrder n s10) fun x11 s12 => zLt (v4 + (1 : Int32)) fun x13 => m_X2_findBest_j29 n f v1 x3 x11 x13 s12)))
def m_X2_findBest_j2 (n : Nat) : Nat → Int32 → Int32 → zS → Option (Int32 × zS)
  | 0, _, _, _ => none
  | f + 1, v1, v2, s =>
    if (5 : Int32) ≤ v2 then (m_X2_findBest_j29  n n v1 (-1 : Int32) (1 : Int32) (0 : Int32) s) else (zBd (m_X7_put n 19 5 v2 v2 s) fun x15 s16 => zLt (v2 + (1 : Int32)) fun x17 => m_X2_findBest_j2 n f v1 x17 s16)
def m_X2_findBest (n : Nat) (v1 : Int32) (s : zS) : Option (Int32 × zS) :=
  m_X2_findBest_j2  n n v1 (0 : Int32) s
def m_X7_bit (n : Nat) (v0 : Int32) (s : zS) : Option (Int32 × zS) :=
  zRt ((1 : Int32) <<< (v0 &&& 31)) s
def m_X7_has (n : Nat) (v0 : Int32) (v1 : Int32) (s : zS) : Option (Int32 × zS) :=
  zBd (m_X7_bit n v1 s) fun x1 s2 => if (v0 &&& x1) = 0 then (zRt (0 : Int32) s2) else (zRt (1 : Int32) s2)
def m_X3_add (n : Nat) (v1 : Int32) (s : zS) : Option (Int32 × zS) :=
  zBd (m_X7_has n (s 25 2) v1 s) fun x1 s2 => if x1 = 0 then (zBd (m_X7_put n 26 16 (s2 25 1) v1 s2) fun x4 s5 => zLt (zU s5 25 1 ((s5 25 1) + (1 : Int32))) fun s6 => zBd (m_X7_bit n v1 s6) fun x7 s8 => zLt (zU s8 25 2 ((s6 25 2) ||| x7)) fun s9 => zRt 0 s9) else (zRt 0 s2)
def m_X5_first (n : Nat) (v1 : Int32) (s : zS) : Option (Int32 × zS) :=
  zBd (m_X7_at n 3 16 v1 s) fun x1 s2 => zRt x1 s2
def m_X5_kind (n : Nat) (v1 : Int32) (s : zS) : Option (Int32 × zS) :=
  zBd (m_X7_at n 2 16 v1 s) fun x1 s2 => zRt x1 s2
def m_X6_of (n : Nat) (v1 : Int32) (s : zS) : Option (Int32 × zS) :=
  zBd (m_X7_at n 22 16 v1 s) fun x1 s2 => zRt x1 s2
def m_X5_second (n : Nat) (v1 : Int32) (s : zS) : Option (Int32 × zS) :=
  zBd (m_X7_at n 4 16 v1 s) fun x1 s2 => zRt x1 s2
def m_X3_addReasons (n : Nat) (v1 : Int32) (s : zS) : Option (Int32 × zS) :=
  zBd (m_X5_first n v1 s) fun x1 s2 => zBd (m_X5_kind n v1 s2) fun x3 s4 => if x3 = (1 : Int32) then (zBd (m_X3_add n x1 s4) fun x6 s7 => zBd (m_X5_second n v1 s7) fun x8 s9 => zBd (m_X3_add n x8 s9) fun x10 s11 => zRt 0 s11) else if x3 = (2 : Int32) then (zBd (m_X3_add n x1 s4) fun x13 s14 => zBd (m_X5_second n v1 s14) fun x15 s16 => zBd (m_X3_add n x15 s16) fun x17 s18 => zRt 0 s18) else if x3 = (3 : Int32) then (zBd (m_X3_add n x1 s4) fun x20 s21 => zRt 0 s21) else if x3 = (4 : Int32) then (zBd (m_X6_of n x1 s4) fun x23 s24 => zBd (m_X6_of n v1 s24) fun x25 s26 => if x23 = x25 then (zBd (m_X3_add n x1 s26) fun x32 s33 => zRt 0 s33) else (zBd (m_X5_second n v1 s26) fun x28 s29 => zBd (m_X3_add n x28 s29) fun x30 s31 => zRt 0 s31)) else if x3 = (5 : Int32) then (zBd (m_X6_of n x1 s4) fun x35 s36 => zBd (m_X6_of n v1 s36) fun x37 s38 => if x35 = x37 then (zBd (m_X3_add n x1 s38) fun x44 s45 => zRt 0 s45) else (zBd (m_X5_second n v1 s38) fun x40 s41 => zBd (m_X3_add n x40 s41) fun x42 s43 => zRt 0 s43)) else if x3 = (6 : Int32) then (zBd (m_X3_add n x1 s4) fun x47 s48 => zRt 0 s48) else if x3 = (7 : Int32) then (zBd (m_X3_add n x1 s4) fun x50 s51 => zRt 0 s51) else if x3 = (8 : Int32) then (zBd (m_X6_of n x1 s4) fun x53 s54 => zBd (m_X6_of n v1 s54) fun x55 s56 => if x53 = x55 then (zBd (m_X3_add n x1 s56) fun x62 s63 => zRt 0 s63) else (zBd (m_X5_second n v1 s56) fun x58 s59 => zBd (m_X3_add n x58 s59) fun x60 s61 => zRt 0 s61)) else (zRt 0 s4)
def m_X3_explain_j18 (n : Nat) : Nat → Int32 → zS → Option (Int32 × zS)
  | 0, _, _ => none
  | f + 1, v4, s =>
    if (16 : Int32) ≤ v4 then (zRt 0 s) else (if (s 25 1) ≤ v4 then (zRt 0 s) else (zBd (m_X7_at n 26 16 v4 s) fun x3 s4 => zBd (m_X3_addReasons n x3 s4) fun x5 s6 => zLt (v4 + (1 : Int32)) fun x7 => m_X3_explain_j18 n f x7 s6))
def m_X3_explain (n : Nat) (v1 : Int32) (s : zS) : Option (Int32 × zS) :=
  zLt (zU s 25 1 (0 : Int32)) fun s8 => zLt (zU s8 25 2 (0 : Int32)) fun s9 => zBd (m_X3_add n v1 s9) fun x10 s11 => m_X3_explain_j18  n n (0 : Int32) s11
def m_X3_lineAt (n : Nat) (v1 : Int32) (s : zS) : Option (Int32 × zS) :=
  if v1 < 0 then (zRt (-1 : Int32) s) else (if (s 25 1) ≤ v1 then (zRt (-1 : Int32) s) else (zBd (m_X7_at n 26 16 v1 s) fun x3 s4 => zRt x3 s4))
def m_X7_takesFirst (n : Nat) (v0 : Int32) (s : zS) : Option (Int32 × zS) :=
  if v0 = 0 then (zRt (0 : Int32) s) else (zRt (1 : Int32) s)
def m_X7_takesSecond_j26 (n : Nat)  (s : zS) : Option (Int32 × zS) :=
  zRt (1 : Int32) s
def m_X7_takesSecond (n : Nat) (v0 : Int32) (s : zS) : Option (Int32 × zS) :=
  if v0 = (1 : Int32) then (m_X7_takesSecond_j26  n s) else (if v0 = (2 : Int32) then (m_X7_takesSecond_j26  n s) else (if v0 = (4 : Int32) then (m_X7_takesSecond_j26  n s) else (if v0 = (5 : Int32) then (m_X7_takesSecond_j26  n s) else (if v0 = (8 : Int32) then (m_X7_takesSecond_j26  n s) else (zRt (0 : Int32) s)))))
def m_X5_uses_j25 (n : Nat) (v1 : Int32) (v2 : Int32) (t0 : Int32) (s : zS) : Option (Int32 × zS) :=
  zBd (m_X7_takesSecond n v2 s) fun x1 s2 => if x1 = 0 then (zRt t0 s2) else (zBd (m_X5_second n v1 s2) fun x4 s5 => zBd (m_X7_bit n x4 s5) fun x6 s7 => zRt (t0 ||| x6) s7)
def m_X5_uses (n : Nat) (v1 : Int32) (s : zS) : Option (Int32 × zS) :=
  zBd (m_X5_kind n v1 s) fun x8 s9 => zBd (m_X7_takesFirst n x8 s9) fun x10 s11 => if x10 = 0 then (m_X5_uses_j25  n v1 x8 (0 : Int32) s11) else (zBd (m_X5_first n v1 s11) fun x13 s14 => zBd (m_X7_bit n x13 s14) fun x15 s16 => m_X5_uses_j25  n v1 x8 x15 s16)
def m_X4_reach (n : Nat) (v1 : Int32) (s : zS) : Option (Int32 × zS) :=
  zBd (m_X7_at n 7 16 v1 s) fun x1 s2 => zRt x1 s2
def m_X4_findReach_j37 (rec29 : Int32 → zS → Option (Int32 × zS)) (n : Nat) : Nat → Int32 → Int32 → zS → Option (Int32 × zS)
  | 0, _, _, _ => none
  | f + 1, v2, v3, s =>
    if (16 : Int32) ≤ v3 then (zLt (v2 + (1 : Int32)) fun x2 => rec29 x2 s) else (zBd (m_X4_reach n v3 s) fun x3 s4 => zBd (m_X7_has n x3 v2 s4) fun x5 s6 => if x5 = 0 then (zLt (v3 + (1 : Int32)) fun x8 => m_X4_findReach_j37 rec29 n f v2 x8 s6) else (zBd (m_X4_reach n v3 s6) fun x9 s10 => zBd (m_X4_reach n v2 s10) fun x11 s12 => zBd (m_X7_put n 7 16 v3 (x9 ||| x11) s12) fun x13 s14 => zLt (v3 + (1 : Int32)) fun x15 => m_X4_findReach_j37 rec29 n f v2 x15 s14))
def m_X4_findReach_j29 (n : Nat) : Nat → Int32 → zS → Option (Int32 × zS)
  | 0, _, _ => none
  | f + 1, v2, s =>
    if (16 : Int32) ≤ v2 then (zRt 0 s) else (m_X4_findReach_j37 (m_X4_findReach_j29 n f) n n v2 (0 : Int32) s)
def m_X4_findReach_j2 (n : Nat) : Nat → Int32 → zS → Option (Int32 × zS)
  | 0, _, _ => none
  | f + 1, v2, s =>
    if (16 : Int32) ≤ v2 then (m_X4_findReach_j29  n n (0 : Int32) s) else (zBd (m_X5_uses n v2 s) fun x18 s19 => zBd (m_X7_put n 7 16 v2 x18 s19) fun x20 s21 => zLt (v2 + (1 : Int32)) fun x22 => m_X4_findReach_j2 n f x22 s21)
def m_X4_findReach (n : Nat)  (s : zS) : Option (Int32 × zS) :=
  m_X4_findReach_j2  n n (0 : Int32) s
def m_X4_findGroups_j15 (rec2 : Int32 → zS → Option (Int32 × zS)) (n : Nat) : Nat → Int32 → Int32 → Int32 → zS → Option (Int32 × zS)
  | 0, _, _, _, _ => none
  | f + 1, v1, v2, v3, s =>
    if (16 : Int32) ≤ v3 then (zBd (m_X7_put n 8 16 v1 v2 s) fun x2 s3 => zLt (v1 + (1 : Int32)) fun x4 => rec2 x4 s3) else (zBd (m_X4_reach n v1 s) fun x5 s6 => zBd (m_X7_has n x5 v3 s6) fun x7 s8 => if x7 = 0 then (zLt (v3 + (1 : Int32)) fun x10 => m_X4_findGroups_j15 rec2 n f v1 v2 x10 s8) else (zBd (m_X4_reach n v3 s8) fun x11 s12 => zBd (m_X7_has n x11 v1 s12) fun x13 s14 => if x13 = 0 then (zLt (v3 + (1 : Int32)) fun x16 => m_X4_findGroups_j15 rec2 n f v1 v2 x16 s14) else (zBd (m_X7_bit n v3 s14) fun x17 s18 => zLt (v2 ||| x17) fun x19 => zLt (v3 + (1 : Int32)) fun x20 => m_X4_findGroups_j15 rec2 n f v1 x19 x20 s18)))
def m_X4_findGroups_j2 (n : Nat) : Nat → Int32 → zS → Option (Int32 × zS)
  | 0, _, _ => none
  | f + 1, v1, s =>
    if (16 : Int32) ≤ v1 then (zRt 0 s) else (zBd (m_X7_bit n v1 s) fun x22 s23 => m_X4_findGroups_j15 (m_X4_findGroups_j2 n f) n n v1 x22 (0 : Int32) s23)
def m_X4_findGroups (n : Nat)  (s : zS) : Option (Int32 × zS) :=
  m_X4_findGroups_j2  n n (0 : Int32) s
def m_X4_groupOf (n : Nat) (v1 : Int32) (s : zS) : Option (Int32 × zS) :=
  zBd (m_X7_at n 8 16 v1 s) fun x1 s2 => zRt x1 s2
def m_X4_isReady (n : Nat) (v1 : Int32) (s : zS) : Option (Int32 × zS) :=
  zBd (m_X7_has n (s 6 4) v1 s) fun x1 s2 => if x1 = 0 then (zBd (m_X4_reach n v1 s2) fun x4 s5 => zBd (m_X4_groupOf n v1 s5) fun x6 s7 => if ((x4 &&& (x6 ^^^ (-1 : Int32))) &&& ((s7 6 4) ^^^ (-1 : Int32))) = 0 then (zRt (1 : Int32) s7) else (zRt (0 : Int32) s7)) else (zRt (0 : Int32) s2)
def m_X4_isCircular (n : Nat) (v1 : Int32) (s : zS) : Option (Int32 × zS) :=
  zBd (m_X4_reach n v1 s) fun x1 s2 => zBd (m_X7_has n x1 v1 s2) fun x3 s4 => zGd (vp_nar .boolean x3 = x3) (zRt x3 s4)
def m_X4_place (n : Nat) (v1 : Int32) (s : zS) : Option (Int32 × zS) :=
  zBd (m_X7_put n 9 16 (s 6 3) v1 s) fun x1 s2 => zLt (zU s2 6 3 ((s2 6 3) + (1 : Int32))) fun s3 => zBd (m_X7_bit n v1 s3) fun x4 s5 => zLt (zU s5 6 4 ((s3 6 4) ||| x4)) fun s6 => zRt 0 s6
def m_X4_onlyLimit_j5 (n : Nat) : Nat → Int32 → Int32 → Int32 → zS → Option (Int32 × zS)
  | 0, _, _, _, _ => none
  | f + 1, v2, v3, v4, s =>
    if (16 : Int32) ≤ v4 then (zRt v3 s) else (zBd (m_X7_has n v2 v4 s) fun x2 s3 => if x2 = 0 then (zLt (v4 + (1 : Int32)) fun x5 => m_X4_onlyLimit_j5 n f v2 v3 x5 s3) else (zBd (m_X5_kind n v4 s3) fun x6 s7 => if x6 = (8 : Int32) then (if v3 = (-1 : Int32) then (zLt (v4 + (1 : Int32)) fun x11 => m_X4_onlyLimit_j5 n f v2 v4 x11 s7) else (zRt (-1 : Int32) s7)) else (zLt (v4 + (1 : Int32)) fun x9 => m_X4_onlyLimit_j5 n f v2 v3 x9 s7)))
def m_X4_onlyLimit (n : Nat) (v2 : Int32) (s : zS) : Option (Int32 × zS) :=
  m_X4_onlyLimit_j5  n n v2 (-1 : Int32) (0 : Int32) s
def m_X4_direct_j127 (n : Nat) (v2 : Int32) (v7 : Int32) (s : zS) : Option (Int32 × zS) :=
  if v7 = 0 then (zRt 0 s) else (zBd (m_X7_bit n v2 s) fun x2 s3 => zLt (zU s3 6 6 ((s 6 6) ||| x2)) fun s4 => zRt 0 s4)
def m_X4_direct_j107 (n : Nat) (v2 : Int32) (v6 : Int32) (t0 : Int32) (s : zS) : Option (Int32 × zS) :=
  if v6 = 0 then (m_X4_direct_j127  n v2 t0 s) else (zBd (m_X7_bit n v2 s) fun x6 s7 => zLt (zU s7 6 5 ((s 6 5) ||| x6)) fun s8 => m_X4_direct_j127  n v2 t0 s8)
def m_X4_direct_j80 (n : Nat) (v2 : Int32) (v4 : Int32) (v5 : Int32) (t0 : Int32) (s : zS) : Option (Int32 × zS) :=
  if (v4 &&& (s 6 6)) = 0 then (if (v5 &&& (s 6 5)) = 0 then (m_X4_direct_j107  n v2 t0 (0 : Int32) s) else (m_X4_direct_j107  n v2 t0 (1 : Int32) s)) else (m_X4_direct_j107  n v2 t0 (1 : Int32) s)
def m_X4_direct_j53 (n : Nat) (v2 : Int32) (v4 : Int32) (t0 : Int32) (s : zS) : Option (Int32 × zS) :=
  if (v4 &&& (s 6 5)) = 0 then (if (t0 &&& (s 6 6)) = 0 then (m_X4_direct_j80  n v2 v4 t0 (0 : Int32) s) else (m_X4_direct_j80  n v2 v4 t0 (1 : Int32) s)) else (m_X4_direct_j80  n v2 v4 t0 (1 : Int32) s)
def m_X4_direct_j35 (n : Nat) (v2 : Int32) (v3 : Int32) (t0 : Int32) (s : zS) : Option (Int32 × zS) :=
  if v3 = 0 then (m_X4_direct_j53  n v2 t0 (0 : Int32) s) else (zBd (m_X5_second n v2 s) fun x14 s15 => zBd (m_X7_bit n x14 s15) fun x16 s17 => m_X4_direct_j53  n v2 t0 x16 s17)
def m_X4_direct_j14 (n : Nat) (v2 : Int32) (t0 : Int32) (s : zS) : Option (Int32 × zS) :=
  if t0 = 0 then (zBd (m_X5_uses n v2 s) fun x19 s20 => m_X4_direct_j35  n v2 t0 x19 s20) else (zBd (m_X5_first n v2 s) fun x21 s22 => zBd (m_X7_bit n x21 s22) fun x23 s24 => m_X4_direct_j35  n v2 t0 x23 s24)
def m_X4_direct (n : Nat) (v2 : Int32) (s : zS) : Option (Int32 × zS) :=
  zBd (m_X5_kind n v2 s) fun x25 s26 => if x25 = (2 : Int32) then (m_X4_direct_j14  n v2 (1 : Int32) s26) else (m_X4_direct_j14  n v2 (0 : Int32) s26)
def m_X4_placeCircle_j137 (n : Nat) (v3 : Int32) (t0 : Int32) (s : zS) : Option (Int32 × zS) :=
  if t0 = 0 then (zRt (0 : Int32) s) else (if ((s 6 5) &&& (s 6 6)) = 0 then (zBd (m_X5_second n v3 s) fun x3 s4 => zBd (m_X7_has n (s 6 6) x3 s4) fun x5 s6 => if x5 = 0 then (zRt (0 : Int32) s6) else (zRt (1 : Int32) s6)) else (zRt (0 : Int32) s))
def m_X4_placeCircle_j57 (rec47 : Int32 → Int32 → Int32 → zS → Option (Int32 × zS)) (n : Nat) : Nat → Int32 → Int32 → Int32 → Int32 → zS → Option (Int32 × zS)
  | 0, _, _, _, _, _ => none
  | f + 1, v2, v3, v4, v5, s =>
    if (16 : Int32) ≤ v5 then (zLt (v4 + (1 : Int32)) fun x9 => rec47 v2 v3 x9 s) else (zBd (m_X7_has n (v2 &&& ((s 6 4) ^^^ (-1 : Int32))) v5 s) fun x10 s11 => if x10 = 0 then (zLt (v5 + (1 : Int32)) fun x13 => m_X4_placeCircle_j57 rec47 n f v2 v3 v4 x13 s11) else (zBd (m_X5_uses n v5 s11) fun x14 s15 => if (x14 &&& ((s15 6 4) ^^^ (-1 : Int32))) = 0 then (zBd (m_X4_place n v5 s15) fun x18 s19 => zBd (m_X4_direct n v5 s19) fun x20 s21 => zLt (v5 + (1 : Int32)) fun x22 => m_X4_placeCircle_j57 rec47 n f v2 v3 v4 x22 s21) else (zLt (v5 + (1 : Int32)) fun x17 => m_X4_placeCircle_j57 rec47 n f v2 v3 v4 x17 s15)))
def m_X4_placeCircle_j47 (n : Nat) : Nat → Int32 → Int32 → Int32 → zS → Option (Int32 × zS)
  | 0, _, _, _, _ => none
  | f + 1, v2, v3, v4, s =>
    if (16 : Int32) ≤ v4 then (if (v2 &&& ((s 6 4) ^^^ (-1 : Int32))) = 0 then (m_X4_placeCircle_j137  n v3 (1 : Int32) s) else (m_X4_placeCircle_j137  n v3 (0 : Int32) s)) else (m_X4_placeCircle_j57 (m_X4_placeCircle_j47 n f) n n v2 v3 v4 (0 : Int32) s)
def m_X4_placeCircle (n : Nat) (v2 : Int32) (s : zS) : Option (Int32 × zS) :=
  zBd (m_X4_onlyLimit n v2 s) fun x25 s26 => if x25 = (-1 : Int32) then (zRt (0 : Int32) s26) else (zBd (m_X5_first n x25 s26) fun x28 s29 => zBd (m_X7_has n v2 x28 s29) fun x30 s31 => if x30 = 0 then (zBd (m_X7_bit n x25 s31) fun x33 s34 => zLt (zU s34 6 5 x33) fun s35 => zLt (zU s35 6 6 (0 : Int32)) fun s36 => zBd (m_X4_place n x25 s36) fun x37 s38 => m_X4_placeCircle_j47  n n v2 x25 (0 : Int32) s38) else (zRt (0 : Int32) s31))
def m_X4_make_j68 (rec21 : Int32 → zS → Option (Int32 × zS)) (rec38 : Int32 → Int32 → zS → Option (Int32 × zS)) (n : Nat) (v2 : Int32) (v3 : Int32) (s : zS) : Option (Int32 × zS) :=
  zBd (m_X4_isReady n v3 s) fun x1 s2 => if x1 = 0 then (zLt (v3 + (1 : Int32)) fun x4 => rec38 v2 x4 s2) else (zBd (m_X4_groupOf n v3 s2) fun x5 s6 => zBd (m_X4_placeCircle n x5 s6) fun x7 s8 => if x7 = 0 then (zRt (0 : Int32) s8) else (zLt (v3 + (1 : Int32)) fun x10 => rec38 v2 x10 s8))
def m_X4_make_j38 (rec21 : Int32 → zS → Option (Int32 × zS)) (n : Nat) : Nat → Int32 → Int32 → zS → Option (Int32 × zS)
  | 0, _, _, _ => none
  | f + 1, v2, v3, s =>
    if (16 : Int32) ≤ v3 then (zLt (v2 + (1 : Int32)) fun x12 => rec21 x12 s) else (zBd (m_X4_isReady n v3 s) fun x13 s14 => if x13 = 0 then (m_X4_make_j68 rec21 (m_X4_make_j38 rec21 n f) n v2 v3 s14) else (zBd (m_X4_isCircular n v3 s14) fun x16 s17 => if x16 = 0 then (zBd (m_X4_place n v3 s17) fun x19 s20 => zLt (v3 + (1 : Int32)) fun x21 => m_X4_make_j38 rec21 n f v2 x21 s20) else (m_X4_make_j68 rec21 (m_X4_make_j38 rec21 n f) n v2 v3 s17)))
def m_X4_make_j21 (n : Nat) : Nat → Int32 → zS → Option (Int32 × zS)
  | 0, _, _ => none
  | f + 1, v2, s =>
    if (16 : Int32) ≤ v2 then (zRt (1 : Int32) s) else (if (s 6 4) = (65535 : Int32) then (zRt (1 : Int32) s) else (m_X4_make_j38 (m_X4_make_j21 n f) n n v2 (0 : Int32) s))
def m_X4_make (n : Nat)  (s : zS) : Option (Int32 × zS) :=
  zBd (m_X4_findReach n s) fun x24 s25 => zBd (m_X4_findGroups n s25) fun x26 s27 => zLt (zU s27 6 3 (0 : Int32)) fun s28 => zLt (zU s28 6 4 (0 : Int32)) fun s29 => m_X4_make_j21  n n (0 : Int32) s29
def m_X4_lineAt (n : Nat) (v1 : Int32) (s : zS) : Option (Int32 × zS) :=
  zBd (m_X7_at n 9 16 v1 s) fun x1 s2 => zRt x1 s2
def m_X4_placeOf_j2 (n : Nat) : Nat → Int32 → Int32 → zS → Option (Int32 × zS)
  | 0, _, _, _ => none
  | f + 1, v1, v2, s =>
    if (16 : Int32) ≤ v2 then (zRt (-1 : Int32) s) else (zBd (m_X4_lineAt n v2 s) fun x2 s3 => if x2 = v1 then (zRt v2 s3) else (zLt (v2 + (1 : Int32)) fun x5 => m_X4_placeOf_j2 n f v1 x5 s3))
def m_X4_placeOf (n : Nat) (v1 : Int32) (s : zS) : Option (Int32 × zS) :=
  m_X4_placeOf_j2  n n v1 (0 : Int32) s
def m_X5_set (n : Nat) (v1 : Int32) (v2 : Int32) (v3 : Int32) (v4 : Int32) (s : zS) : Option (Int32 × zS) :=
  zBd (m_X7_put n 2 16 v1 v2 s) fun x1 s2 => zBd (m_X7_put n 3 16 v1 v3 s2) fun x3 s4 => zBd (m_X7_put n 4 16 v1 v4 s4) fun x5 s6 => zRt 0 s6
def m_X5_given (n : Nat) (v1 : Int32) (s : zS) : Option (Int32 × zS) :=
  zBd (m_X7_at n 5 16 v1 s) fun x1 s2 => zRt x1 s2
def m_X5_give (n : Nat) (v1 : Int32) (v2 : Int32) (s : zS) : Option (Int32 × zS) :=
  zBd (m_X7_put n 5 16 v1 v2 s) fun x1 s2 => zRt 0 s2
def m_J6_bitCount_0f7a4 (n : Nat) (v0 : Int32) (s : zS) : Option (Int32 × zS) :=
  zLt (v0 - (((v0.toUInt32 >>> ((1 : Int32).toUInt32 &&& Int32.toUInt32 31)).toInt32) &&& (1431655765 : Int32))) fun x1 => zLt ((x1 &&& (858993459 : Int32)) + (((x1.toUInt32 >>> ((2 : Int32).toUInt32 &&& Int32.toUInt32 31)).toInt32) &&& (858993459 : Int32))) fun x2 => zLt ((x2 + ((x2.toUInt32 >>> ((4 : Int32).toUInt32 &&& Int32.toUInt32 31)).toInt32)) &&& (252645135 : Int32)) fun x3 => zLt (x3 + ((x3.toUInt32 >>> ((8 : Int32).toUInt32 &&& Int32.toUInt32 31)).toInt32)) fun x4 => zLt (x4 + ((x4.toUInt32 >>> ((16 : Int32).toUInt32 &&& Int32.toUInt32 31)).toInt32)) fun x5 => zRt (x5 &&& (63 : Int32)) s
def m_X6_plain (n : Nat) (v1 : Int32) (s : zS) : Option (Int32 × zS) :=
  zBd (m_X5_first n v1 s) fun x1 s2 => zBd (m_X6_of n x1 s2) fun x3 s4 => zBd (m_X5_second n v1 s4) fun x5 s6 => zBd (m_X5_kind n v1 s6) fun x7 s8 => if x7 = (1 : Int32) then (zBd (m_X6_of n x5 s8) fun x10 s11 => zRt (if (1000000000 : Int32) < (x3 + x10) then (1000000000 : Int32) else (x3 + x10)) s11) else if x7 = (2 : Int32) then (zBd (m_X6_of n x5 s8) fun x13 s14 => zRt (if (x3 - x13) < (0 : Int32) then (0 : Int32) else (x3 - x13)) s14) else if x7 = (3 : Int32) then (zBd (m_X7_thousandths n x3 x5 s8) fun x16 s17 => zRt x16 s17) else if x7 = (4 : Int32) then (zBd (m_X6_of n x5 s8) fun x19 s20 => zRt (if x19 < x3 then x19 else x3) s20) else if x7 = (5 : Int32) then (zBd (m_X6_of n x5 s8) fun x22 s23 => zRt (if x3 < x22 then x22 else x3) s23) else if x7 = (6 : Int32) then (zBd (m_X1_tax n x3 s8) fun x25 s26 => zRt x25 s26) else if x7 = (7 : Int32) then (zBd (m_X0_total n s8) fun x28 s29 => zRt (if x28 < x3 then x28 else x3) s29) else if x7 = (8 : Int32) then (zBd (m_X6_of n x5 s8) fun x31 s32 => zRt (if x31 < x3 then x31 else x3) s32) else (if v1 = (s8 21 5) then (zBd (m_X5_given n v1 s8) fun x36 s37 => zRt (x36 + (1 : Int32)) s37) else (zBd (m_X5_given n v1 s8) fun x34 s35 => zRt x34 s35))
def m_X6_suppose_j38 (n : Nat) : Nat → Int32 → Int32 → zS → Option (Int32 × zS)
  | 0, _, _, _ => none
  | f + 1, v4, v5, s =>
    if v4 ≤ v5 then (zRt 0 s) else (zBd (m_X4_lineAt n v5 s) fun x2 s3 => zBd (m_X6_plain n x2 s3) fun x4 s5 => zBd (m_X7_put n 22 16 x2 x4 s5) fun x6 s7 => zLt (v5 + (1 : Int32)) fun x8 => m_X6_suppose_j38 n f v4 x8 s7)
def m_X6_suppose (n : Nat) (v1 : Int32) (v2 : Int32) (s : zS) : Option (Int32 × zS) :=
  zBd (m_X4_lineAt n v1 s) fun x9 s10 => zBd (m_X7_put n 22 16 x9 v2 s10) fun x11 s12 => zBd (m_X4_groupOf n x9 s12) fun x13 s14 => zBd (m_J6_bitCount_0f7a4 n x13 s14) fun x15 s16 => zLt (v1 + x15) fun x17 => zLt (v1 + (1 : Int32)) fun x18 => m_X6_suppose_j38  n n x17 x18 s16
def m_X6_greatest_j28 (n : Nat) : Nat → Int32 → Int32 → Int32 → Int32 → Int32 → zS → Option (Int32 × zS)
  | 0, _, _, _, _, _, _ => none
  | f + 1, v1, v2, v3, v4, v5, s =>
    if (31 : Int32) ≤ v5 then (zRt v3 s) else (if v4 ≤ v3 then (zRt v3 s) else (zLt (v3 + (((v4 - v3) + (1 : Int32)) / (2 : Int32))) fun x3 => zBd (m_X6_suppose n v1 x3 s) fun x4 s5 => zBd (m_X5_second n v2 s5) fun x6 s7 => zBd (m_X6_of n x6 s7) fun x8 s9 => if x8 < x3 then (zLt (x3 - (1 : Int32)) fun x11 => zLt (v5 + (1 : Int32)) fun x12 => m_X6_greatest_j28 n f v1 v2 v3 x11 x12 s9) else (zLt (v5 + (1 : Int32)) fun x13 => m_X6_greatest_j28 n f v1 v2 x3 v4 x13 s9)))
def m_X6_greatest (n : Nat) (v1 : Int32) (s : zS) : Option (Int32 × zS) :=
  zBd (m_X4_lineAt n v1 s) fun x14 s15 => zBd (m_X5_first n x14 s15) fun x16 s17 => zBd (m_X6_of n x16 s17) fun x18 s19 => m_X6_greatest_j28  n n v1 x14 (0 : Int32) x18 (0 : Int32) s19
def m_X6_workOut_j51 (rec7 : Int32 → zS → Option (Int32 × zS)) (n : Nat) (v2 : Int32) (v3 : Int32) (t0 : Int32) (s : zS) : Option (Int32 × zS) :=
  if t0 = 0 then (zBd (m_X6_plain n v3 s) fun x2 s3 => zBd (m_X7_put n 22 16 v3 x2 s3) fun x4 s5 => zLt (v2 + (1 : Int32)) fun x6 => rec7 x6 s5) else (zBd (m_X6_greatest n v2 s) fun x7 s8 => zBd (m_X7_put n 22 16 v3 x7 s8) fun x9 s10 => zLt (v2 + (1 : Int32)) fun x11 => rec7 x11 s10)
def m_X6_workOut_j7 (n : Nat) : Nat → Int32 → zS → Option (Int32 × zS)
  | 0, _, _ => none
  | f + 1, v2, s =>
    if (16 : Int32) ≤ v2 then (zRt 0 s) else (zBd (m_X4_lineAt n v2 s) fun x13 s14 => zBd (m_X5_kind n x13 s14) fun x15 s16 => if x15 = (8 : Int32) then (zBd (m_X4_isCircular n x13 s16) fun x18 s19 => if x18 = 0 then (m_X6_workOut_j51 (m_X6_workOut_j7 n f) n v2 x13 (0 : Int32) s19) else (m_X6_workOut_j51 (m_X6_workOut_j7 n f) n v2 x13 (1 : Int32) s19)) else (m_X6_workOut_j51 (m_X6_workOut_j7 n f) n v2 x13 (0 : Int32) s16))
def m_X6_workOut (n : Nat) (v1 : Int32) (s : zS) : Option (Int32 × zS) :=
  zLt (zU s 21 5 v1) fun s21 => m_X6_workOut_j7  n n (0 : Int32) s21
def m_X7_isWithin (n : Nat) (v0 : Int32) (v1 : Int32) (v2 : Int32) (s : zS) : Option (Int32 × zS) :=
  if v0 < v1 then (zRt (0 : Int32) s) else (if v2 < v0 then (zRt (0 : Int32) s) else (zRt (1 : Int32) s))
def m_X7_checkPlace (n : Nat) (v0 : Int32) (s : zS) : Option ((Int32 ⊕ Nat) × zS) :=
  if v0 = 0 then (zTx 1 s) else (zRx 0 s)
def m_X7_checkLine (n : Nat) (v0 : Int32) (s : zS) : Option ((Int32 ⊕ Nat) × zS) :=
  zBd (m_X7_isWithin n v0 (0 : Int32) (15 : Int32) s) fun x1 s2 => zBx (m_X7_checkPlace n x1 s2) fun x3 s4 => zRx 0 s4
def m_X7_checkArgument (n : Nat) (v0 : Int32) (s : zS) : Option ((Int32 ⊕ Nat) × zS) :=
  if v0 = 0 then (zTx 2 s) else (zRx 0 s)
def m_X7_define_j73 (n : Nat) (v1 : Int32) (v2 : Int32) (v3 : Int32) (v4 : Int32) (t0 : Int32) (s : zS) : Option ((Int32 ⊕ Nat) × zS) :=
  zBx (m_X7_checkArgument n t0 s) fun x1 s2 => zBd (m_X5_kind n v1 s2) fun x3 s4 => zBd (m_X5_first n v1 s4) fun x5 s6 => zBd (m_X5_second n v1 s6) fun x7 s8 => zBd (m_X5_set n v1 v2 v3 v4 s8) fun x9 s10 => zBd (m_X4_make n s10) fun x11 s12 => if x11 = 0 then (zBd (m_X5_set n v1 x3 x5 x7 s12) fun x14 s15 => zBd (m_X4_make n s15) fun x16 s17 => zTx 3 s17) else (zRx 0 s12)
def m_X7_define_j46 (n : Nat) (v1 : Int32) (v2 : Int32) (v3 : Int32) (v4 : Int32) (v5 : Int32) (s : zS) : Option ((Int32 ⊕ Nat) × zS) :=
  if v5 = 0 then (m_X7_define_j73  n v1 v2 v3 v4 (0 : Int32) s) else (if v2 = (3 : Int32) then (zBd (m_X7_isWithin n v4 (0 : Int32) (1000 : Int32) s) fun x20 s21 => if x20 = 0 then (m_X7_define_j73  n v1 v2 v3 v4 (0 : Int32) s21) else (m_X7_define_j73  n v1 v2 v3 v4 (1 : Int32) s21)) else (m_X7_define_j73  n v1 v2 v3 v4 (1 : Int32) s))
def m_X7_define_j29 (n : Nat) (v1 : Int32) (v2 : Int32) (v3 : Int32) (v4 : Int32) (v5 : Int32) (s : zS) : Option ((Int32 ⊕ Nat) × zS) :=
  if v5 = 0 then (m_X7_define_j46  n v1 v2 v3 v4 v5 s) else (zBd (m_X7_takesSecond n v2 s) fun x24 s25 => if x24 = 0 then (m_X7_define_j46  n v1 v2 v3 v4 v5 s25) else (zBx (m_X7_checkLine n v4 s25) fun x27 s28 => m_X7_define_j46  n v1 v2 v3 v4 v5 s28))
def m_X7_define (n : Nat) (v1 : Int32) (v2 : Int32) (v3 : Int32) (v4 : Int32) (s : zS) : Option ((Int32 ⊕ Nat) × zS) :=
  zBx (m_X7_checkLine n v1 s) fun x29 s30 => zBd (m_X7_isWithin n v2 (0 : Int32) (8 : Int32) s30) fun x31 s32 => if x31 = 0 then (m_X7_define_j29  n v1 v2 v3 v4 x31 s32) else (zBd (m_X7_takesFirst n v2 s32) fun x34 s35 => if x34 = 0 then (m_X7_define_j29  n v1 v2 v3 v4 x31 s35) else (zBx (m_X7_checkLine n v3 s35) fun x37 s38 => m_X7_define_j29  n v1 v2 v3 v4 x31 s38))
def m_X7_answer (n : Nat) (v1 : Int32) (v2 : Int32) (s : zS) : Option ((Int32 ⊕ Nat) × zS) :=
  zBx (m_X7_checkLine n v1 s) fun x1 s2 => zBd (m_X7_isWithin n v2 (0 : Int32) (1000000 : Int32) s2) fun x3 s4 => zBx (m_X7_checkArgument n x3 s4) fun x5 s6 => zBd (m_X5_given n v1 s6) fun x7 s8 => zBd (m_X5_give n v1 v2 s8) fun x9 s10 => zRx x7 s10
def m_X7_kindOf (n : Nat) (v1 : Int32) (s : zS) : Option ((Int32 ⊕ Nat) × zS) :=
  zBx (m_X7_checkLine n v1 s) fun x1 s2 => zBd (m_X5_kind n v1 s2) fun x3 s4 => zRx x3 s4
def m_X7_value (n : Nat) (v1 : Int32) (s : zS) : Option ((Int32 ⊕ Nat) × zS) :=
  zBx (m_X7_checkLine n v1 s) fun x1 s2 => zBd (m_X6_workOut n (-1 : Int32) s2) fun x3 s4 => zBd (m_X6_of n v1 s4) fun x5 s6 => zRx x5 s6
def m_X7_checkState (n : Nat) (v0 : Int32) (s : zS) : Option ((Int32 ⊕ Nat) × zS) :=
  if v0 = 0 then (zTx 3 s) else (zRx 0 s)
def m_X7_boundFor_j32 (n : Nat) (v1 : Int32) (v2 : Int32) (t0 : Int32) (s : zS) : Option ((Int32 ⊕ Nat) × zS) :=
  zBx (m_X7_checkState n t0 s) fun x1 s2 => zBd (m_X6_workOut n (-1 : Int32) s2) fun x3 s4 => zBd (m_X4_placeOf n v1 s4) fun x5 s6 => zBd (m_X6_suppose n x5 v2 s6) fun x7 s8 => zBd (m_X5_second n v1 s8) fun x9 s10 => zBd (m_X6_of n x9 s10) fun x11 s12 => zRx x11 s12
def m_X7_boundFor (n : Nat) (v1 : Int32) (v2 : Int32) (s : zS) : Option ((Int32 ⊕ Nat) × zS) :=
  zBx (m_X7_checkLine n v1 s) fun x13 s14 => zBd (m_X7_isWithin n v2 (0 : Int32) (1000000000 : Int32) s14) fun x15 s16 => zBx (m_X7_checkArgument n x15 s16) fun x17 s18 => zBd (m_X5_kind n v1 s18) fun x19 s20 => if x19 = (8 : Int32) then (m_X7_boundFor_j32  n v1 v2 (1 : Int32) s20) else (m_X7_boundFor_j32  n v1 v2 (0 : Int32) s20)
def m_X7_dependsOn (n : Nat) (v1 : Int32) (v2 : Int32) (s : zS) : Option ((Int32 ⊕ Nat) × zS) :=
  zBx (m_X7_checkLine n v1 s) fun x1 s2 => zBx (m_X7_checkLine n v2 s2) fun x3 s4 => zBd (m_X4_reach n v1 s4) fun x5 s6 => zBd (m_X7_has n x5 v2 s6) fun x7 s8 => zGd (vp_nar .boolean x7 = x7) (zRx x7 s8)
def m_X6b_of (n : Nat) (v1 : Int32) (s : zS) : Option (Int32 × zS) :=
  zBd (m_X7_at n 24 16 v1 s) fun x1 s2 => zRt x1 s2
def m_X6b_plain (n : Nat) (v1 : Int32) (s : zS) : Option (Int32 × zS) :=
  zBd (m_X5_first n v1 s) fun x1 s2 => zBd (m_X6b_of n x1 s2) fun x3 s4 => zBd (m_X5_second n v1 s4) fun x5 s6 => zBd (m_X5_kind n v1 s6) fun x7 s8 => if x7 = (1 : Int32) then (zBd (m_X6b_of n x5 s8) fun x10 s11 => zRt (if (1000000000 : Int32) < (x3 + x10) then (1000000000 : Int32) else (x3 + x10)) s11) else if x7 = (2 : Int32) then (zBd (m_X6b_of n x5 s8) fun x13 s14 => zRt (if (x3 - x13) < (0 : Int32) then (0 : Int32) else (x3 - x13)) s14) else if x7 = (3 : Int32) then (zBd (m_X7_thousandths n x3 x5 s8) fun x16 s17 => zRt x16 s17) else if x7 = (4 : Int32) then (zBd (m_X6b_of n x5 s8) fun x19 s20 => zRt (if x19 < x3 then x19 else x3) s20) else if x7 = (5 : Int32) then (zBd (m_X6b_of n x5 s8) fun x22 s23 => zRt (if x3 < x22 then x22 else x3) s23) else if x7 = (6 : Int32) then (zBd (m_X1_tax n x3 s8) fun x25 s26 => zRt x25 s26) else if x7 = (7 : Int32) then (zBd (m_X0_total n s8) fun x28 s29 => zRt (if x28 < x3 then x28 else x3) s29) else if x7 = (8 : Int32) then (zBd (m_X6b_of n x5 s8) fun x31 s32 => zRt (if x31 < x3 then x31 else x3) s32) else (if v1 = (s8 23 5) then (zBd (m_X5_given n v1 s8) fun x36 s37 => zRt (x36 + (1 : Int32)) s37) else (zBd (m_X5_given n v1 s8) fun x34 s35 => zRt x34 s35))
def m_X6b_suppose_j38 (n : Nat) : Nat → Int32 → Int32 → zS → Option (Int32 × zS)
  | 0, _, _, _ => none
  | f + 1, v4, v5, s =>
    if v4 ≤ v5 then (zRt 0 s) else (zBd (m_X4_lineAt n v5 s) fun x2 s3 => zBd (m_X6b_plain n x2 s3) fun x4 s5 => zBd (m_X7_put n 24 16 x2 x4 s5) fun x6 s7 => zLt (v5 + (1 : Int32)) fun x8 => m_X6b_suppose_j38 n f v4 x8 s7)
def m_X6b_suppose (n : Nat) (v1 : Int32) (v2 : Int32) (s : zS) : Option (Int32 × zS) :=
  zBd (m_X4_lineAt n v1 s) fun x9 s10 => zBd (m_X7_put n 24 16 x9 v2 s10) fun x11 s12 => zBd (m_X4_groupOf n x9 s12) fun x13 s14 => zBd (m_J6_bitCount_0f7a4 n x13 s14) fun x15 s16 => zLt (v1 + x15) fun x17 => zLt (v1 + (1 : Int32)) fun x18 => m_X6b_suppose_j38  n n x17 x18 s16
def m_X6b_greatest_j28 (n : Nat) : Nat → Int32 → Int32 → Int32 → Int32 → Int32 → zS → Option (Int32 × zS)
  | 0, _, _, _, _, _, _ => none
  | f + 1, v1, v2, v3, v4, v5, s =>
    if (31 : Int32) ≤ v5 then (zRt v3 s) else (if v4 ≤ v3 then (zRt v3 s) else (zLt (v3 + (((v4 - v3) + (1 : Int32)) / (2 : Int32))) fun x3 => zBd (m_X6b_suppose n v1 x3 s) fun x4 s5 => zBd (m_X5_second n v2 s5) fun x6 s7 => zBd (m_X6b_of n x6 s7) fun x8 s9 => if x8 < x3 then (zLt (x3 - (1 : Int32)) fun x11 => zLt (v5 + (1 : Int32)) fun x12 => m_X6b_greatest_j28 n f v1 v2 v3 x11 x12 s9) else (zLt (v5 + (1 : Int32)) fun x13 => m_X6b_greatest_j28 n f v1 v2 x3 v4 x13 s9)))
def m_X6b_greatest (n : Nat) (v1 : Int32) (s : zS) : Option (Int32 × zS) :=
  zBd (m_X4_lineAt n v1 s) fun x14 s15 => zBd (m_X5_first n x14 s15) fun x16 s17 => zBd (m_X6b_of n x16 s17) fun x18 s19 => m_X6b_greatest_j28  n n v1 x14 (0 : Int32) x18 (0 : Int32) s19
def m_X6b_workOut_j51 (rec7 : Int32 → zS → Option (Int32 × zS)) (n : Nat) (v2 : Int32) (v3 : Int32) (t0 : Int32) (s : zS) : Option (Int32 × zS) :=
  if t0 = 0 then (zBd (m_X6b_plain n v3 s) fun x2 s3 => zBd (m_X7_put n 24 16 v3 x2 s3) fun x4 s5 => zLt (v2 + (1 : Int32)) fun x6 => rec7 x6 s5) else (zBd (m_X6b_greatest n v2 s) fun x7 s8 => zBd (m_X7_put n 24 16 v3 x7 s8) fun x9 s10 => zLt (v2 + (1 : Int32)) fun x11 => rec7 x11 s10)
def m_X6b_workOut_j7 (n : Nat) : Nat → Int32 → zS → Option (Int32 × zS)
  | 0, _, _ => none
  | f + 1, v2, s =>
    if (16 : Int32) ≤ v2 then (zRt 0 s) else (zBd (m_X4_lineAt n v2 s) fun x13 s14 => zBd (m_X5_kind n x13 s14) fun x15 s16 => if x15 = (8 : Int32) then (zBd (m_X4_isCircular n x13 s16) fun x18 s19 => if x18 = 0 then (m_X6b_workOut_j51 (m_X6b_workOut_j7 n f) n v2 x13 (0 : Int32) s19) else (m_X6b_workOut_j51 (m_X6b_workOut_j7 n f) n v2 x13 (1 : Int32) s19)) else (m_X6b_workOut_j51 (m_X6b_workOut_j7 n f) n v2 x13 (0 : Int32) s16))
def m_X6b_workOut (n : Nat) (v1 : Int32) (s : zS) : Option (Int32 × zS) :=
  zLt (zU s 23 5 v1) fun s21 => m_X6b_workOut_j7  n n (0 : Int32) s21
def m_X7_influence_j37 (n : Nat) : Nat → Int32 → Int32 → zS → Option ((Int32 ⊕ Nat) × zS)
  | 0, _, _, _ => none
  | f + 1, v2, v3, s =>
    if (16 : Int32) ≤ v3 then (zRx v2 s) else (zBd (m_X6_of n v3 s) fun x2 s3 => zBd (m_X6b_of n v3 s3) fun x4 s5 => if x2 = x4 then (zLt (v3 + (1 : Int32)) fun x7 => m_X7_influence_j37 n f v2 x7 s5) else (zLt (v2 + (1 : Int32)) fun x8 => zLt (v3 + (1 : Int32)) fun x9 => m_X7_influence_j37 n f x8 x9 s5))
def m_X7_influence (n : Nat) (v1 : Int32) (s : zS) : Option ((Int32 ⊕ Nat) × zS) :=
  zBx (m_X7_checkLine n v1 s) fun x10 s11 => zBd (m_X5_kind n v1 s11) fun x12 s13 => if x12 = 0 then (zBd (m_X6_workOut n (-1 : Int32) s13) fun x15 s16 => zBd (m_X6b_workOut n v1 s16) fun x17 s18 => m_X7_influence_j37  n n (0 : Int32) (0 : Int32) s18) else (zRx (0 : Int32) s13)
def m_X7_why_j13 (n : Nat) (v1 : Int32) (v2 : Int32) (t0 : Int32) (s : zS) : Option ((Int32 ⊕ Nat) × zS) :=
  zBx (m_X7_checkPlace n t0 s) fun x1 s2 => zBd (m_X6_workOut n (-1 : Int32) s2) fun x3 s4 => zBd (m_X3_explain n v1 s4) fun x5 s6 => zBd (m_X3_lineAt n v2 s6) fun x7 s8 => zRx x7 s8
def m_X7_why (n : Nat) (v1 : Int32) (v2 : Int32) (s : zS) : Option ((Int32 ⊕ Nat) × zS) :=
  zBx (m_X7_checkLine n v1 s) fun x9 s10 => if v2 < 0 then (m_X7_why_j13  n v1 v2 (0 : Int32) s10) else (m_X7_why_j13  n v1 v2 (1 : Int32) s10)
def m_X7_bracket_j26 (n : Nat) (v1 : Int32) (v2 : Int32) (t0 : Int32) (s : zS) : Option ((Int32 ⊕ Nat) × zS) :=
  zBx (m_X7_checkArgument n t0 s) fun x1 s2 => zBd (m_X1_hasRoomFor n v1 s2) fun x3 s4 => zBx (m_X7_checkState n x3 s4) fun x5 s6 => zBd (m_X1_set n v1 v2 s6) fun x7 s8 => zBd (m_X1_size n s8) fun x9 s10 => zRx x9 s10
def m_X7_bracket (n : Nat) (v1 : Int32) (v2 : Int32) (s : zS) : Option ((Int32 ⊕ Nat) × zS) :=
  zBd (m_X7_isWithin n v1 (0 : Int32) (1000000 : Int32) s) fun x11 s12 => if x11 = 0 then (m_X7_bracket_j26  n v1 v2 (0 : Int32) s12) else (zBd (m_X7_isWithin n v2 (0 : Int32) (1000 : Int32) s12) fun x14 s15 => if x14 = 0 then (m_X7_bracket_j26  n v1 v2 (0 : Int32) s15) else (m_X7_bracket_j26  n v1 v2 (1 : Int32) s15))
def m_X7_dropBrackets (n : Nat)  (s : zS) : Option (Int32 × zS) :=
  zBd (m_X1_size n s) fun x1 s2 => zBd (m_X1_clear n s2) fun x3 s4 => zRt x1 s4
def m_X7_taxOn (n : Nat) (v1 : Int32) (s : zS) : Option ((Int32 ⊕ Nat) × zS) :=
  zBd (m_X7_isWithin n v1 (0 : Int32) (1000000000 : Int32) s) fun x1 s2 => zBx (m_X7_checkArgument n x1 s2) fun x3 s4 => zBd (m_X1_tax n v1 s4) fun x5 s6 => zRx x5 s6
def m_X7_carry_j55 (n : Nat) (v1 : Int32) (v2 : Int32) (t0 : Int32) (s : zS) : Option ((Int32 ⊕ Nat) × zS) :=
  zBx (m_X7_checkState n t0 s) fun x1 s2 => zBd (m_X0_add n v1 v2 s2) fun x3 s4 => zBd (m_X0_total n s4) fun x5 s6 => zRx x5 s6
def m_X7_carry_j35 (n : Nat) (v1 : Int32) (v2 : Int32) (t0 : Int32) (s : zS) : Option ((Int32 ⊕ Nat) × zS) :=
  zBx (m_X7_checkArgument n t0 s) fun x7 s8 => zBd (m_X0_size n s8) fun x9 s10 => if (8 : Int32) ≤ x9 then (m_X7_carry_j55  n v1 v2 (0 : Int32) s10) else (m_X7_carry_j55  n v1 v2 (1 : Int32) s10)
def m_X7_carry (n : Nat) (v1 : Int32) (v2 : Int32) (s : zS) : Option ((Int32 ⊕ Nat) × zS) :=
  zBd (m_X0_now n s) fun x12 s13 => zBd (m_X7_isWithin n v1 (1 : Int32) (1000000 : Int32) s13) fun x14 s15 => if x14 = 0 then (m_X7_carry_j35  n v1 v2 (0 : Int32) s15) else (zBd (m_X7_isWithin n v2 x12 (x12 + (20 : Int32)) s15) fun x17 s18 => if x17 = 0 then (m_X7_carry_j35  n v1 v2 (0 : Int32) s18) else (m_X7_carry_j35  n v1 v2 (1 : Int32) s18))
def m_X7_carried (n : Nat)  (s : zS) : Option (Int32 × zS) :=
  zBd (m_X0_total n s) fun x1 s2 => zRt x1 s2
def m_X7_carriedAt (n : Nat) (v1 : Int32) (s : zS) : Option ((Int32 ⊕ Nat) × zS) :=
  if v1 < 0 then (zBx (m_X7_checkPlace n (0 : Int32) s) fun x2 s3 => zBd (m_X0_leftAt n v1 s3) fun x4 s5 => zRx x4 s5) else (zBd (m_X0_size n s) fun x6 s7 => if x6 ≤ v1 then (zBx (m_X7_checkPlace n (0 : Int32) s7) fun x9 s10 => zBd (m_X0_leftAt n v1 s10) fun x11 s12 => zRx x11 s12) else (zBx (m_X7_checkPlace n (1 : Int32) s7) fun x13 s14 => zBd (m_X0_leftAt n v1 s14) fun x15 s16 => zRx x15 s16))
def m_X7_year (n : Nat)  (s : zS) : Option (Int32 × zS) :=
  zBd (m_X0_now n s) fun x1 s2 => zRt x1 s2
def m_X7_closeYear_j12 (n : Nat) : Nat → Int32 → Int32 → zS → Option (Int32 × zS)
  | 0, _, _, _ => none
  | f + 1, v1, v2, s =>
    if (16 : Int32) ≤ v2 then (zBd (m_X0_endYear n s) fun x2 s3 => zRt v1 s3) else (zBd (m_X5_kind n v2 s) fun x4 s5 => if x4 = (7 : Int32) then (zBd (m_X6_of n v2 s5) fun x8 s9 => zBd (m_X0_take n x8 s9) fun x10 s11 => zLt (v1 + x10) fun x12 => zLt (v2 + (1 : Int32)) fun x13 => m_X7_closeYear_j12 n f x12 x13 s11) else (zLt (v2 + (1 : Int32)) fun x7 => m_X7_closeYear_j12 n f v1 x7 s5))
def m_X7_closeYear (n : Nat)  (s : zS) : Option (Int32 × zS) :=
  zBd (m_X6_workOut n (-1 : Int32) s) fun x14 s15 => m_X7_closeYear_j12  n n (0 : Int32) (0 : Int32) s15
def m_X7_addCredit_j45 (n : Nat) (v1 : Int32) (v2 : Int32) (t0 : Int32) (s : zS) : Option ((Int32 ⊕ Nat) × zS) :=
  zBx (m_X7_checkState n t0 s) fun x1 s2 => zBd (m_X2_add n v1 v2 s2) fun x3 s4 => zBd (m_X2_size n s4) fun x5 s6 => zRx (x5 - (1 : Int32)) s6
def m_X7_addCredit_j26 (n : Nat) (v1 : Int32) (v2 : Int32) (t0 : Int32) (s : zS) : Option ((Int32 ⊕ Nat) × zS) :=
  zBx (m_X7_checkArgument n t0 s) fun x7 s8 => zBd (m_X2_size n s8) fun x9 s10 => if (5 : Int32) ≤ x9 then (m_X7_addCredit_j45  n v1 v2 (0 : Int32) s10) else (m_X7_addCredit_j45  n v1 v2 (1 : Int32) s10)
def m_X7_addCredit (n : Nat) (v1 : Int32) (v2 : Int32) (s : zS) : Option ((Int32 ⊕ Nat) × zS) :=
  zBd (m_X7_isWithin n v1 (1 : Int32) (1000000 : Int32) s) fun x12 s13 => if x12 = 0 then (m_X7_addCredit_j26  n v1 v2 (0 : Int32) s13) else (zBd (m_X7_isWithin n v2 (0 : Int32) (1000 : Int32) s13) fun x15 s16 => if x15 = 0 then (m_X7_addCredit_j26  n v1 v2 (0 : Int32) s16) else (m_X7_addCredit_j26  n v1 v2 (1 : Int32) s16))
def m_X7_dropCredit (n : Nat)  (s : zS) : Option ((Int32 ⊕ Nat) × zS) :=
  zBd (m_X2_size n s) fun x1 s2 => if x1 ≤ 0 then (zBx (m_X7_checkState n (0 : Int32) s2) fun x4 s5 => zBd (m_X2_dropLast n s5) fun x6 s7 => zBd (m_X2_size n s7) fun x8 s9 => zRx x8 s9) else (zBx (m_X7_checkState n (1 : Int32) s2) fun x10 s11 => zBd (m_X2_dropLast n s11) fun x12 s13 => zBd (m_X2_size n s13) fun x14 s15 => zRx x14 s15)
def m_X7_creditAt_j24 (n : Nat) (v1 : Int32) (v2 : Int32) (t0 : Int32) (s : zS) : Option ((Int32 ⊕ Nat) × zS) :=
  zBx (m_X7_checkPlace n t0 s) fun x1 s2 => zBd (m_X6_workOut n (-1 : Int32) s2) fun x3 s4 => zBd (m_X6_of n v1 s4) fun x5 s6 => zBd (m_X2_findBest n x5 s6) fun x7 s8 => zBd (m_X2_bestAt n v2 s8) fun x9 s10 => zRx x9 s10
def m_X7_creditAt (n : Nat) (v1 : Int32) (v2 : Int32) (s : zS) : Option ((Int32 ⊕ Nat) × zS) :=
  zBx (m_X7_checkLine n v1 s) fun x11 s12 => if v2 < 0 then (m_X7_creditAt_j24  n v1 v2 (0 : Int32) s12) else (zBd (m_X2_size n s12) fun x14 s15 => if x14 ≤ v2 then (m_X7_creditAt_j24  n v1 v2 (0 : Int32) s15) else (m_X7_creditAt_j24  n v1 v2 (1 : Int32) s15))
def m_X7_afterCredits (n : Nat) (v1 : Int32) (s : zS) : Option ((Int32 ⊕ Nat) × zS) :=
  zBx (m_X7_checkLine n v1 s) fun x1 s2 => zBd (m_X6_workOut n (-1 : Int32) s2) fun x3 s4 => zBd (m_X6_of n v1 s4) fun x5 s6 => zBd (m_X2_total n s6) fun x7 s8 => zRx (x5 - (if x7 < x5 then x7 else x5)) s8
def m_X7_bestSum (n : Nat) (v1 : Int32) (s : zS) : Option ((Int32 ⊕ Nat) × zS) :=
  zBx (m_X7_checkLine n v1 s) fun x1 s2 => zBd (m_X6_workOut n (-1 : Int32) s2) fun x3 s4 => zBd (m_X6_of n v1 s4) fun x5 s6 => zBd (m_X2_findBest n x5 s6) fun x7 s8 => zRx x7 s8
def m_X8_thrown (n : Nat)  (s : zS) : Option (Int32 × zS) :=
  zRt (s 0 23) s
def m_X8_isIn (n : Nat) (v0 : Int32) (v1 : Int32) (v2 : Int32) (s : zS) : Option (Int32 × zS) :=
  if v0 < v1 then (zRt (0 : Int32) s) else (if v2 < v0 then (zRt (0 : Int32) s) else (zRt (1 : Int32) s))
def m_X8_isLine (n : Nat) (v0 : Int32) (s : zS) : Option (Int32 × zS) :=
  zBd (m_X8_isIn n v0 (0 : Int32) (15 : Int32) s) fun x1 s2 => zGd (vp_nar .boolean x1 = x1) (zRt x1 s2)
def m_X8_usesFirst (n : Nat) (v1 : Int32) (s : zS) : Option (Int32 × zS) :=
  zRd (s 1) v1 16 fun x1 => if x1 = 0 then (zRt (0 : Int32) s) else (zRt (1 : Int32) s)
def m_X8_usesSecond_j33 (n : Nat)  (s : zS) : Option (Int32 × zS) :=
  zRt (1 : Int32) s
def m_X8_usesSecond (n : Nat) (v1 : Int32) (s : zS) : Option (Int32 × zS) :=
  zRd (s 1) v1 16 fun x1 => if x1 = (1 : Int32) then (m_X8_usesSecond_j33  n s) else (if x1 = (2 : Int32) then (m_X8_usesSecond_j33  n s) else (if x1 = (4 : Int32) then (m_X8_usesSecond_j33  n s) else (if x1 = (5 : Int32) then (m_X8_usesSecond_j33  n s) else (if x1 = (8 : Int32) then (m_X8_usesSecond_j33  n s) else (zRt (0 : Int32) s)))))
def m_X8_laysNeeds_j93 (rec76 : Int32 → zS → Option (Int32 × zS)) (rec84 : Int32 → Int32 → zS → Option (Int32 × zS)) (n : Nat) : Nat → Int32 → Int32 → Int32 → zS → Option (Int32 × zS)
  | 0, _, _, _, _ => none
  | f + 1, v2, v3, v4, s =>
    if (16 : Int32) ≤ v4 then (zLt (v3 + (1 : Int32)) fun x2 => rec84 v2 x2 s) else (zRd (s 13) v3 16 fun x3 => zRd (s 13) v3 16 fun x4 => if ((x4 >>> (v4 &&& 31)) &&& (1 : Int32)) = (1 : Int32) then (zRd (s 13) v4 16 fun x8 => zWr s 13 v3 16 (x3 ||| x8) fun s9 => zLt (v4 + (1 : Int32)) fun x10 => m_X8_laysNeeds_j93 rec76 rec84 n f v2 v3 x10 s9) else (zWr s 13 v3 16 (x3 ||| (0 : Int32)) fun s6 => zLt (v4 + (1 : Int32)) fun x7 => m_X8_laysNeeds_j93 rec76 rec84 n f v2 v3 x7 s6))
def m_X8_laysNeeds_j84 (rec76 : Int32 → zS → Option (Int32 × zS)) (n : Nat) : Nat → Int32 → Int32 → zS → Option (Int32 × zS)
  | 0, _, _, _ => none
  | f + 1, v2, v3, s =>
    if (16 : Int32) ≤ v3 then (zLt (v2 + (1 : Int32)) fun x12 => rec76 x12 s) else (m_X8_laysNeeds_j93 rec76 (m_X8_laysNeeds_j84 rec76 n f) n n v2 v3 (0 : Int32) s)
def m_X8_laysNeeds_j76 (n : Nat) : Nat → Int32 → zS → Option (Int32 × zS)
  | 0, _, _ => none
  | f + 1, v2, s =>
    if (16 : Int32) ≤ v2 then (zRt 0 s) else (m_X8_laysNeeds_j84 (m_X8_laysNeeds_j76 n f) n n v2 (0 : Int32) s)
def m_X8_laysNeeds_j33 (rec2 : Int32 → Int32 → zS → Option (Int32 × zS)) (n : Nat) (v1 : Int32) (v2 : Int32) (t1 : Int32) (t2 : Int32) (s : zS) : Option (Int32 × zS) :=
  zWr s 13 t1 16 t2 fun s14 => zRd (s14 13) v2 16 fun x15 => zBd (m_X8_usesSecond n v2 s14) fun x16 s17 => if x16 = 0 then (zWr s17 13 v2 16 (x15 ||| (0 : Int32)) fun s19 => zLt (v2 + (1 : Int32)) fun x20 => rec2 v1 x20 s19) else (if v2 = v1 then (zWr s17 13 v2 16 (x15 ||| (0 : Int32)) fun s22 => zLt (v2 + (1 : Int32)) fun x23 => rec2 v1 x23 s22) else (zRd (s17 3) v2 16 fun x24 => zWr s17 13 v2 16 (x15 ||| ((1 : Int32) <<< (x24 &&& 31))) fun s25 => zLt (v2 + (1 : Int32)) fun x26 => rec2 v1 x26 s25))
def m_X8_laysNeeds_j2 (n : Nat) : Nat → Int32 → Int32 → zS → Option (Int32 × zS)
  | 0, _, _, _ => none
  | f + 1, v1, v2, s =>
    if (16 : Int32) ≤ v2 then (m_X8_laysNeeds_j76  n n (0 : Int32) s) else (zBd (m_X8_usesFirst n v2 s) fun x28 s29 => if x28 = 0 then (m_X8_laysNeeds_j33 (m_X8_laysNeeds_j2 n f) n v1 v2 v2 (0 : Int32) s29) else (zRd (s29 2) v2 16 fun x31 => m_X8_laysNeeds_j33 (m_X8_laysNeeds_j2 n f) n v1 v2 v2 ((1 : Int32) <<< (x31 &&& 31)) s29))
def m_X8_laysNeeds (n : Nat) (v1 : Int32) (s : zS) : Option (Int32 × zS) :=
  m_X8_laysNeeds_j2  n n v1 (0 : Int32) s
def m_X8_depends (n : Nat) (v1 : Int32) (v2 : Int32) (s : zS) : Option (Int32 × zS) :=
  zRd (s 13) v1 16 fun x1 => if ((x1 >>> (v2 &&& 31)) &&& (1 : Int32)) = (1 : Int32) then (zRt (1 : Int32) s) else (zRt (0 : Int32) s)
def m_X8_circle_j4 (n : Nat) : Nat → Int32 → Int32 → Int32 → zS → Option (Int32 × zS)
  | 0, _, _, _, _ => none
  | f + 1, v1, v2, v3, s =>
    if (16 : Int32) ≤ v3 then (zRt v2 s) else (zBd (m_X8_depends n v1 v3 s) fun x2 s3 => if x2 = 0 then (zLt (v2 ||| (0 : Int32)) fun x5 => zLt (v3 + (1 : Int32)) fun x6 => m_X8_circle_j4 n f v1 x5 x6 s3) else (zBd (m_X8_depends n v3 v1 s3) fun x7 s8 => if x7 = 0 then (zLt (v2 ||| (0 : Int32)) fun x10 => zLt (v3 + (1 : Int32)) fun x11 => m_X8_circle_j4 n f v1 x10 x11 s8) else (zLt (v2 ||| ((1 : Int32) <<< (v3 &&& 31))) fun x12 => zLt (v3 + (1 : Int32)) fun x13 => m_X8_circle_j4 n f v1 x12 x13 s8)))
def m_X8_circle (n : Nat) (v1 : Int32) (s : zS) : Option (Int32 × zS) :=
  m_X8_circle_j4  n n v1 (0 : Int32) (0 : Int32) s
def m_X8_turned (n : Nat) (v0 : Int32) (s : zS) : Option (Int32 × zS) :=
  zRt (((v0 &&& (1 : Int32)) * (2 : Int32)) + (v0 >>> ((1 : Int32) &&& 31))) s
def m_X8_isFalling_j199 (n : Nat) : Nat → Int32 → Int32 → Int32 → zS → Option (Int32 × zS)
  | 0, _, _, _, _ => none
  | f + 1, v1, v3, v4, s =>
    if (16 : Int32) ≤ v4 then (zGd (vp_nar .boolean v3 = v3) (zRt v3 s)) else (zRd (s 14) v4 16 fun x3 => if x3 = (3 : Int32) then (zLt (v3 &&& (0 : Int32)) fun x5 => zLt (v4 + (1 : Int32)) fun x6 => m_X8_isFalling_j199 n f v1 x5 x6 s) else (if ((v1 >>> (v4 &&& 31)) &&& (1 : Int32)) = (1 : Int32) then (zBd (m_X8_depends n v4 v4 s) fun x10 s11 => if x10 = 0 then (zLt (v3 &&& (1 : Int32)) fun x15 => zLt (v4 + (1 : Int32)) fun x16 => m_X8_isFalling_j199 n f v1 x15 x16 s11) else (zLt (v3 &&& (0 : Int32)) fun x13 => zLt (v4 + (1 : Int32)) fun x14 => m_X8_isFalling_j199 n f v1 x13 x14 s11)) else (zLt (v3 &&& (1 : Int32)) fun x8 => zLt (v4 + (1 : Int32)) fun x9 => m_X8_isFalling_j199 n f v1 x8 x9 s)))
def m_X8_isFalling_j161 (rec32 : Int32 → Int32 → Int32 → zS → Option (Int32 × zS)) (rec41 : Int32 → Int32 → Int32 → Int32 → zS → Option (Int32 × zS)) (n : Nat) (v1 : Int32) (v2 : Int32) (v3 : Int32) (v4 : Int32) (t1 : Int32) (t2 : Int32) (t3 : Int32) (s : zS) : Option (Int32 × zS) :=
  zWr s 14 t1 16 (t2 ||| t3) fun s17 => zLt (v4 + (1 : Int32)) fun x18 => rec41 v1 v2 v3 x18 s17
def m_X8_isFalling_j97 (rec32 : Int32 → Int32 → Int32 → zS → Option (Int32 × zS)) (rec41 : Int32 → Int32 → Int32 → Int32 → zS → Option (Int32 × zS)) (n : Nat) (v1 : Int32) (v2 : Int32) (v3 : Int32) (v4 : Int32) (t1 : Int32) (t2 : Int32) (t3 : Int32) (s : zS) : Option (Int32 × zS) :=
  zWr s 14 t1 16 (t2 ||| t3) fun s19 => zRd (s19 14) v4 16 fun x20 => zBd (m_X8_usesSecond n v4 s19) fun x21 s22 => if x21 = 0 then (m_X8_isFalling_j161 rec32 rec41 n v1 v2 v3 v4 v4 x20 (0 : Int32) s22) else (zRd (s22 1) v4 16 fun x24 => if x24 = (2 : Int32) then (zRd (s22 3) v4 16 fun x28 => zRd (s22 14) x28 16 fun x29 => zBd (m_X8_turned n x29 s22) fun x30 s31 => m_X8_isFalling_j161 rec32 rec41 n v1 v2 v3 v4 v4 x20 x30 s31) else (zRd (s22 3) v4 16 fun x26 => zRd (s22 14) x26 16 fun x27 => m_X8_isFalling_j161 rec32 rec41 n v1 v2 v3 v4 v4 x20 x27 s22))
def m_X8_isFalling_j41 (rec32 : Int32 → Int32 → Int32 → zS → Option (Int32 × zS)) (n : Nat) : Nat → Int32 → Int32 → Int32 → Int32 → zS → Option (Int32 × zS)
  | 0, _, _, _, _, _ => none
  | f + 1, v1, v2, v3, v4, s =>
    if (16 : Int32) ≤ v4 then (zLt (v3 + (1 : Int32)) fun x33 => rec32 v1 v2 x33 s) else (if ((v1 >>> (v4 &&& 31)) &&& (1 : Int32)) = (1 : Int32) then (if v4 = v2 then (zLt (v4 + (1 : Int32)) fun x37 => m_X8_isFalling_j41 rec32 n f v1 v2 v3 x37 s) else (zRd (s 14) v4 16 fun x38 => zBd (m_X8_usesFirst n v4 s) fun x39 s40 => if x39 = 0 then (m_X8_isFalling_j97 rec32 (m_X8_isFalling_j41 rec32 n f) n v1 v2 v3 v4 v4 x38 (0 : Int32) s40) else (zRd (s40 2) v4 16 fun x42 => zRd (s40 14) x42 16 fun x43 => m_X8_isFalling_j97 rec32 (m_X8_isFalling_j41 rec32 n f) n v1 v2 v3 v4 v4 x38 x43 s40))) else (zLt (v4 + (1 : Int32)) fun x35 => m_X8_isFalling_j41 rec32 n f v1 v2 v3 x35 s))
def m_X8_isFalling_j32 (n : Nat) : Nat → Int32 → Int32 → Int32 → zS → Option (Int32 × zS)
  | 0, _, _, _, _ => none
  | f + 1, v1, v2, v3, s =>
    if (16 : Int32) ≤ v3 then (zRd (s 3) v2 16 fun x45 => zRd (s 14) x45 16 fun x46 => if x46 = (2 : Int32) then (m_X8_isFalling_j199  n n v1 (1 : Int32) (0 : Int32) s) else (m_X8_isFalling_j199  n n v1 (0 : Int32) (0 : Int32) s)) else (m_X8_isFalling_j41 (m_X8_isFalling_j32 n f) n n v1 v2 v3 (0 : Int32) s)
def m_X8_isFalling_j2 (n : Nat) : Nat → Int32 → Int32 → Int32 → zS → Option (Int32 × zS)
  | 0, _, _, _, _ => none
  | f + 1, v1, v2, v3, s =>
    if (16 : Int32) ≤ v3 then (m_X8_isFalling_j32  n n v1 v2 (0 : Int32) s) else (if v3 = v2 then (zWr s 14 v3 16 (1 : Int32) fun s52 => zLt (v3 + (1 : Int32)) fun x53 => m_X8_isFalling_j2 n f v1 v2 x53 s52) else (zWr s 14 v3 16 (0 : Int32) fun s50 => zLt (v3 + (1 : Int32)) fun x51 => m_X8_isFalling_j2 n f v1 v2 x51 s50))
def m_X8_isFalling (n : Nat) (v1 : Int32) (v2 : Int32) (s : zS) : Option (Int32 × zS) :=
  m_X8_isFalling_j2  n n v1 v2 (0 : Int32) s
def m_X8_isAllowed_j136 (rec4 : Int32 → Int32 → zS → Option (Int32 × zS)) (n : Nat) (v2 : Int32) (v3 : Int32) (v4 : Int32) (v5 : Int32) (t0 : Int32) (t1 : Int32) (s : zS) : Option (Int32 × zS) :=
  zLt (t0 &&& t1) fun x1 => zBd (m_X8_laysNeeds n v5 s) fun x2 s3 => if v4 = (1 : Int32) then (zBd (m_X8_isFalling n v3 v5 s3) fun x7 s8 => if x7 = 0 then (zLt (x1 &&& (0 : Int32)) fun x10 => zLt (v2 + (1 : Int32)) fun x11 => rec4 x10 x11 s8) else (zLt (x1 &&& (1 : Int32)) fun x12 => zLt (v2 + (1 : Int32)) fun x13 => rec4 x12 x13 s8)) else (zLt (x1 &&& (0 : Int32)) fun x5 => zLt (v2 + (1 : Int32)) fun x6 => rec4 x5 x6 s3)
def m_X8_isAllowed_j87 (rec4 : Int32 → Int32 → zS → Option (Int32 × zS)) (rec39 : Int32 → Int32 → Int32 → Int32 → Int32 → Int32 → zS → Option (Int32 × zS)) (n : Nat) (v1 : Int32) (v2 : Int32) (v3 : Int32) (v5 : Int32) (v6 : Int32) (v7 : Int32) (t0 : Int32) (t1 : Int32) (s : zS) : Option (Int32 × zS) :=
  zLt (t0 + t1) fun x14 => if v7 = 0 then (zLt (v6 + (1 : Int32)) fun x16 => rec39 v1 v2 v3 x14 v5 x16 s) else (zLt (v6 + (1 : Int32)) fun x17 => rec39 v1 v2 v3 x14 v6 x17 s)
def m_X8_isAllowed_j73 (rec4 : Int32 → Int32 → zS → Option (Int32 × zS)) (rec39 : Int32 → Int32 → Int32 → Int32 → Int32 → Int32 → zS → Option (Int32 × zS)) (n : Nat) (v1 : Int32) (v2 : Int32) (v3 : Int32) (v4 : Int32) (v5 : Int32) (v6 : Int32) (t0 : Int32) (s : zS) : Option (Int32 × zS) :=
  if t0 = 0 then (m_X8_isAllowed_j87 rec4 rec39 n v1 v2 v3 v5 v6 t0 v4 (0 : Int32) s) else (m_X8_isAllowed_j87 rec4 rec39 n v1 v2 v3 v5 v6 t0 v4 (1 : Int32) s)
def m_X8_isAllowed_j39 (rec4 : Int32 → Int32 → zS → Option (Int32 × zS)) (n : Nat) : Nat → Int32 → Int32 → Int32 → Int32 → Int32 → Int32 → zS → Option (Int32 × zS)
  | 0, _, _, _, _, _, _, _ => none
  | f + 1, v1, v2, v3, v4, v5, v6, s =>
    if (16 : Int32) ≤ v6 then (if v4 = (1 : Int32) then (zRd (s 2) v5 16 fun x21 => if ((v3 >>> (x21 &&& 31)) &&& (1 : Int32)) = 0 then (m_X8_isAllowed_j136 rec4 n v2 v3 v4 v5 v1 (1 : Int32) s) else (m_X8_isAllowed_j136 rec4 n v2 v3 v4 v5 v1 (0 : Int32) s)) else (m_X8_isAllowed_j136 rec4 n v2 v3 v4 v5 v1 (0 : Int32) s)) else (if ((v3 >>> (v6 &&& 31)) &&& (1 : Int32)) = (1 : Int32) then (zRd (s 1) v6 16 fun x24 => if x24 = (8 : Int32) then (m_X8_isAllowed_j73 rec4 (m_X8_isAllowed_j39 rec4 n f) n v1 v2 v3 v4 v5 v6 (1 : Int32) s) else (m_X8_isAllowed_j73 rec4 (m_X8_isAllowed_j39 rec4 n f) n v1 v2 v3 v4 v5 v6 (0 : Int32) s)) else (m_X8_isAllowed_j73 rec4 (m_X8_isAllowed_j39 rec4 n f) n v1 v2 v3 v4 v5 v6 (0 : Int32) s))
def m_X8_isAllowed_j4 (n : Nat) : Nat → Int32 → Int32 → zS → Option (Int32 × zS)
  | 0, _, _, _ => none
  | f + 1, v1, v2, s =>
    if (16 : Int32) ≤ v2 then (zGd (vp_nar .boolean v1 = v1) (zRt v1 s)) else (zBd (m_X8_laysNeeds n (-1 : Int32) s) fun x28 s29 => zBd (m_X8_depends n v2 v2 s29) fun x30 s31 => if x30 = 0 then (zLt (v2 + (1 : Int32)) fun x33 => m_X8_isAllowed_j4 n f v1 x33 s31) else (zBd (m_X8_circle n v2 s31) fun x34 s35 => m_X8_isAllowed_j39 (m_X8_isAllowed_j4 n f) n n v1 v2 x34 (0 : Int32) (0 : Int32) (0 : Int32) s35))
def m_X8_isAllowed (n : Nat)  (s : zS) : Option (Int32 × zS) :=
  m_X8_isAllowed_j4  n n (1 : Int32) (0 : Int32) s
def m_X8_define_j122 (n : Nat) (v1 : Int32) (v2 : Int32) (v3 : Int32) (v4 : Int32) (t1 : Int32) (s : zS) : Option (Int32 × zS) :=
  zLt (zU s 0 23 t1) fun s1 => if (s1 0 23) ≤ 0 then (zRd (s1 1) v1 16 fun x3 => zRd (s1 2) v1 16 fun x4 => zRd (s1 3) v1 16 fun x5 => zWr s1 1 v1 16 v2 fun s6 => zWr s6 2 v1 16 v3 fun s7 => zWr s7 3 v1 16 v4 fun s8 => zBd (m_X8_isAllowed n s8) fun x9 s10 => if x9 = 0 then (zWr s10 1 v1 16 x3 fun s12 => zWr s12 2 v1 16 x4 fun s13 => zWr s13 3 v1 16 x5 fun s14 => zLt (zU s14 0 23 (3 : Int32)) fun s15 => zRt 0 s15) else (zRt 0 s10)) else (zRt 0 s1)
def m_X8_define_j83 (n : Nat) (v1 : Int32) (v2 : Int32) (v3 : Int32) (v4 : Int32) (v6 : Int32) (t0 : Int32) (s : zS) : Option (Int32 × zS) :=
  if t0 = 0 then (m_X8_define_j122  n v1 v2 v3 v4 (1 : Int32) s) else (if v6 = 0 then (m_X8_define_j122  n v1 v2 v3 v4 (2 : Int32) s) else (if v2 = (3 : Int32) then (zBd (m_X8_isIn n v4 (0 : Int32) (1000 : Int32) s) fun x19 s20 => if x19 = 0 then (m_X8_define_j122  n v1 v2 v3 v4 (2 : Int32) s20) else (m_X8_define_j122  n v1 v2 v3 v4 (0 : Int32) s20)) else (m_X8_define_j122  n v1 v2 v3 v4 (0 : Int32) s)))
def m_X8_define_j65 (n : Nat) (v1 : Int32) (v2 : Int32) (v3 : Int32) (v4 : Int32) (v5 : Int32) (v6 : Int32) (s : zS) : Option (Int32 × zS) :=
  if v5 = 0 then (m_X8_define_j83  n v1 v2 v3 v4 v6 (1 : Int32) s) else (zBd (m_X8_isLine n v4 s) fun x23 s24 => if x23 = 0 then (m_X8_define_j83  n v1 v2 v3 v4 v6 (0 : Int32) s24) else (m_X8_define_j83  n v1 v2 v3 v4 v6 (1 : Int32) s24))
def m_X8_define_j31 (n : Nat) (v1 : Int32) (v2 : Int32) (v3 : Int32) (v4 : Int32) (t0 : Int32) (s : zS) : Option (Int32 × zS) :=
  zBd (m_X8_isIn n v2 (0 : Int32) (8 : Int32) s) fun x26 s27 => zBd (m_X8_isLine n v1 s27) fun x28 s29 => if x28 = 0 then (m_X8_define_j83  n v1 v2 v3 v4 x26 (0 : Int32) s29) else (if x26 = 0 then (m_X8_define_j65  n v1 v2 v3 v4 t0 x26 s29) else (if v2 = 0 then (m_X8_define_j65  n v1 v2 v3 v4 t0 x26 s29) else (zBd (m_X8_isLine n v3 s29) fun x33 s34 => if x33 = 0 then (m_X8_define_j83  n v1 v2 v3 v4 x26 (0 : Int32) s34) else (m_X8_define_j65  n v1 v2 v3 v4 t0 x26 s34))))
def m_X8_define_j26 (n : Nat) (v1 : Int32) (v2 : Int32) (v3 : Int32) (v4 : Int32) (s : zS) : Option (Int32 × zS) :=
  m_X8_define_j31  n v1 v2 v3 v4 (1 : Int32) s
def m_X8_define (n : Nat) (v1 : Int32) (v2 : Int32) (v3 : Int32) (v4 : Int32) (s : zS) : Option (Int32 × zS) :=
  if v2 = (1 : Int32) then (m_X8_define_j26  n v1 v2 v3 v4 s) else (if v2 = (2 : Int32) then (m_X8_define_j26  n v1 v2 v3 v4 s) else (if v2 = (4 : Int32) then (m_X8_define_j26  n v1 v2 v3 v4 s) else (if v2 = (5 : Int32) then (m_X8_define_j26  n v1 v2 v3 v4 s) else (if v2 = (8 : Int32) then (m_X8_define_j26  n v1 v2 v3 v4 s) else (m_X8_define_j31  n v1 v2 v3 v4 (0 : Int32) s)))))
def m_X8_answer_j27 (n : Nat) (v1 : Int32) (v2 : Int32) (t1 : Int32) (s : zS) : Option (Int32 × zS) :=
  zLt (zU s 0 23 t1) fun s1 => if (s1 0 23) ≤ 0 then (zRd (s1 4) v1 16 fun x3 => zWr s1 4 v1 16 v2 fun s4 => zRt x3 s4) else (zRt (0 : Int32) s1)
def m_X8_answer (n : Nat) (v1 : Int32) (v2 : Int32) (s : zS) : Option (Int32 × zS) :=
  zBd (m_X8_isLine n v1 s) fun x5 s6 => if x5 = 0 then (m_X8_answer_j27  n v1 v2 (1 : Int32) s6) else (zBd (m_X8_isIn n v2 (0 : Int32) (1000000 : Int32) s6) fun x8 s9 => if x8 = 0 then (m_X8_answer_j27  n v1 v2 (2 : Int32) s9) else (m_X8_answer_j27  n v1 v2 (0 : Int32) s9))
def m_X8_kindOf_j13 (n : Nat) (v1 : Int32) (t1 : Int32) (s : zS) : Option (Int32 × zS) :=
  zLt (zU s 0 23 t1) fun s1 => if (s1 0 23) ≤ 0 then (zRd (s1 1) v1 16 fun x3 => zRt x3 s1) else (zRt (0 : Int32) s1)
def m_X8_kindOf (n : Nat) (v1 : Int32) (s : zS) : Option (Int32 × zS) :=
  zBd (m_X8_isLine n v1 s) fun x4 s5 => if x4 = 0 then (m_X8_kindOf_j13  n v1 (1 : Int32) s5) else (m_X8_kindOf_j13  n v1 (0 : Int32) s5)
def m_X8_taxed_j115 (rec4 : Int32 → Int32 → Int32 → zS → Option (Int32 × zS)) (n : Nat) (v1 : Int32) (v2 : Int32) (v3 : Int32) (t0 : Int64) (s : zS) : Option (Int32 × zS) :=
  zRd (s 6) v3 5 fun x1 => zLt (v2 + (Int64.toInt32 ((t0 * (Int32.toInt64 x1)) / (1000 : Int64)))) fun x2 => zLt (v3 + (1 : Int32)) fun x3 => rec4 v1 x2 x3 s
def m_X8_taxed_j88 (rec4 : Int32 → Int32 → Int32 → zS → Option (Int32 × zS)) (n : Nat) (v1 : Int32) (v2 : Int32) (v3 : Int32) (t0 : Int32) (s : zS) : Option (Int32 × zS) :=
  zRd (s 5) v3 5 fun x4 => if t0 ≤ x4 then (m_X8_taxed_j115 rec4 n v1 v2 v3 (0 : Int64) s) else (zRd (s 5) v3 5 fun x6 => m_X8_taxed_j115 rec4 n v1 v2 v3 (Int32.toInt64 (t0 - x6)) s)
def m_X8_taxed_j19 (rec4 : Int32 → Int32 → Int32 → zS → Option (Int32 × zS)) (n : Nat) : Nat → Int32 → Int32 → Int32 → Int32 → Int32 → zS → Option (Int32 × zS)
  | 0, _, _, _, _, _, _ => none
  | f + 1, v1, v2, v3, v4, v5, s =>
    if (s 0 4) ≤ v5 then (if v4 ≤ v1 then (m_X8_taxed_j88 rec4 n v1 v2 v3 v4 s) else (m_X8_taxed_j88 rec4 n v1 v2 v3 v1 s)) else (zRd (s 5) v5 5 fun x9 => zRd (s 5) v3 5 fun x10 => if x9 ≤ x10 then (zLt (v5 + (1 : Int32)) fun x12 => m_X8_taxed_j19 rec4 n f v1 v2 v3 v4 x12 s) else (zRd (s 5) v5 5 fun x13 => if v4 ≤ x13 then (zLt (v5 + (1 : Int32)) fun x15 => m_X8_taxed_j19 rec4 n f v1 v2 v3 v4 x15 s) else (zRd (s 5) v5 5 fun x16 => zLt (v5 + (1 : Int32)) fun x17 => m_X8_taxed_j19 rec4 n f v1 v2 v3 x16 x17 s)))
def m_X8_taxed_j4 (n : Nat) : Nat → Int32 → Int32 → Int32 → zS → Option (Int32 × zS)
  | 0, _, _, _, _ => none
  | f + 1, v1, v2, v3, s =>
    if (s 0 4) ≤ v3 then (zRt v2 s) else (m_X8_taxed_j19 (m_X8_taxed_j4 n f) n n v1 v2 v3 (1000000000 : Int32) (0 : Int32) s)
def m_X8_taxed (n : Nat) (v1 : Int32) (s : zS) : Option (Int32 × zS) :=
  m_X8_taxed_j4  n n v1 (0 : Int32) (0 : Int32) s
def m_X8_all_j4 (n : Nat) : Nat → Int32 → Int32 → zS → Option (Int32 × zS)
  | 0, _, _, _ => none
  | f + 1, v1, v2, s =>
    if (s 0 8) ≤ v2 then (zRt v1 s) else (zRd (s 7) v2 8 fun x2 => zLt (v1 + x2) fun x3 => zLt (v2 + (1 : Int32)) fun x4 => m_X8_all_j4 n f x3 x4 s)
def m_X8_all (n : Nat)  (s : zS) : Option (Int32 × zS) :=
  m_X8_all_j4  n n (0 : Int32) (0 : Int32) s
def m_X8_works_j190 (n : Nat) (v4 : Int32) (t0 : Int32) (s : zS) : Option (Int32 × zS) :=
  if t0 ≤ v4 then (zRt t0 s) else (zRt v4 s)
def m_X8_works_j59 (n : Nat) (v1 : Int32) (v3 : Int32) (v4 : Int32) (t0 : Int32) (s : zS) : Option (Int32 × zS) :=
  if v3 = 0 then (zRd (s 4) v1 16 fun x17 => zRt x17 s) else (if v3 = (1 : Int32) then (if v4 ≤ ((1000000000 : Int32) - t0) then (zRt (v4 + t0) s) else (zRt (1000000000 : Int32) s)) else (if v3 = (2 : Int32) then (if v4 ≤ t0 then (zRt (0 : Int32) s) else (zRt (v4 - t0) s)) else (if v3 = (3 : Int32) then (zRd (s 3) v1 16 fun x14 => zRt (Int64.toInt32 (((Int32.toInt64 v4) * (Int32.toInt64 x14)) / (1000 : Int64))) s) else (if v3 = (5 : Int32) then (if v4 ≤ t0 then (zRt t0 s) else (zRt v4 s)) else (if v3 = (6 : Int32) then (zBd (m_X8_taxed n v4 s) fun x11 s12 => zRt x11 s12) else (if v3 = (7 : Int32) then (zBd (m_X8_all n s) fun x9 s10 => m_X8_works_j190  n v4 x9 s10) else (m_X8_works_j190  n v4 t0 s)))))))
def m_X8_works_j32 (n : Nat) (v1 : Int32) (v2 : Int32) (v3 : Int32) (t0 : Int32) (s : zS) : Option (Int32 × zS) :=
  zBd (m_X8_usesSecond n v1 s) fun x18 s19 => if x18 = 0 then (m_X8_works_j59  n v1 v3 t0 (0 : Int32) s19) else (zRd (s19 3) v1 16 fun x21 => zRd (s19 11) (v2 + x21) 32 fun x22 => m_X8_works_j59  n v1 v3 t0 x22 s19)
def m_X8_works (n : Nat) (v1 : Int32) (v2 : Int32) (s : zS) : Option (Int32 × zS) :=
  zRd (s 1) v1 16 fun x23 => zBd (m_X8_usesFirst n v1 s) fun x24 s25 => if x24 = 0 then (m_X8_works_j32  n v1 v2 x23 (0 : Int32) s25) else (zRd (s25 2) v1 16 fun x27 => zRd (s25 11) (v2 + x27) 32 fun x28 => m_X8_works_j32  n v1 v2 x23 x28 s25)
def m_X8_passes_j78 (rec2 : Int32 → Int32 → zS → Option (Int32 × zS)) (rec10 : Int32 → Int32 → Int32 → zS → Option (Int32 × zS)) (n : Nat) (v1 : Int32) (v2 : Int32) (v3 : Int32) (t0 : Int32) (t1 : Int32) (s : zS) : Option (Int32 × zS) :=
  zLt (t0 &&& t1) fun x1 => if x1 = 0 then (zLt (v3 + (1 : Int32)) fun x3 => rec10 v1 v2 x3 s) else (zRd (s 12) (v1 + v3) 32 fun x4 => if x4 = 0 then (zBd (m_X8_works n v3 v1 s) fun x7 s8 => zWr s8 11 (v1 + v3) 32 x7 fun s9 => zWr s9 12 (v1 + v3) 32 (vp_nar .boolean (1 : Int32)) fun s10 => zLt (v3 + (1 : Int32)) fun x11 => rec10 v1 v2 x11 s10) else (zLt (v3 + (1 : Int32)) fun x6 => rec10 v1 v2 x6 s))
def m_X8_passes_j45 (rec2 : Int32 → Int32 → zS → Option (Int32 × zS)) (rec10 : Int32 → Int32 → Int32 → zS → Option (Int32 × zS)) (n : Nat) (v1 : Int32) (v2 : Int32) (v3 : Int32) (t0 : Int32) (s : zS) : Option (Int32 × zS) :=
  zBd (m_X8_usesSecond n v3 s) fun x12 s13 => if x12 = 0 then (m_X8_passes_j78 rec2 rec10 n v1 v2 v3 t0 (1 : Int32) s13) else (zRd (s13 3) v3 16 fun x15 => zRd (s13 12) (v1 + x15) 32 fun x16 => if x16 = 0 then (m_X8_passes_j78 rec2 rec10 n v1 v2 v3 t0 (0 : Int32) s13) else (m_X8_passes_j78 rec2 rec10 n v1 v2 v3 t0 (1 : Int32) s13))
def m_X8_passes_j10 (rec2 : Int32 → Int32 → zS → Option (Int32 × zS)) (n : Nat) : Nat → Int32 → Int32 → Int32 → zS → Option (Int32 × zS)
  | 0, _, _, _, _ => none
  | f + 1, v1, v2, v3, s =>
    if (16 : Int32) ≤ v3 then (zLt (v2 + (1 : Int32)) fun x19 => rec2 v1 x19 s) else (zBd (m_X8_usesFirst n v3 s) fun x20 s21 => if x20 = 0 then (m_X8_passes_j45 rec2 (m_X8_passes_j10 rec2 n f) n v1 v2 v3 (1 : Int32) s21) else (zRd (s21 2) v3 16 fun x23 => zRd (s21 12) (v1 + x23) 32 fun x24 => if x24 = 0 then (m_X8_passes_j45 rec2 (m_X8_passes_j10 rec2 n f) n v1 v2 v3 (0 : Int32) s21) else (m_X8_passes_j45 rec2 (m_X8_passes_j10 rec2 n f) n v1 v2 v3 (1 : Int32) s21)))
def m_X8_passes_j2 (n : Nat) : Nat → Int32 → Int32 → zS → Option (Int32 × zS)
  | 0, _, _, _ => none
  | f + 1, v1, v2, s =>
    if (16 : Int32) ≤ v2 then (zRt 0 s) else (m_X8_passes_j10 (m_X8_passes_j2 n f) n n v1 v2 (0 : Int32) s)
def m_X8_passes (n : Nat) (v1 : Int32) (s : zS) : Option (Int32 × zS) :=
  m_X8_passes_j2  n n v1 (0 : Int32) s
def m_X8_tries_j2 (n : Nat) : Nat → Int32 → Int32 → Int32 → zS → Option (Int32 × zS)
  | 0, _, _, _, _ => none
  | f + 1, v1, v2, v3, s =>
    if (16 : Int32) ≤ v3 then (zWr s 11 ((16 : Int32) + v1) 32 v2 fun s2 => zWr s2 12 ((16 : Int32) + v1) 32 (vp_nar .boolean (1 : Int32)) fun s3 => zBd (m_X8_passes n (16 : Int32) s3) fun x4 s5 => zRd (s5 3) v1 16 fun x6 => zRd (s5 12) ((16 : Int32) + x6) 32 fun x7 => zGd (vp_nar .boolean x7 = x7) (zRt x7 s5)) else (zRd (s 11) v3 32 fun x9 => zWr s 11 ((16 : Int32) + v3) 32 x9 fun s10 => zRd (s10 12) v3 32 fun x11 => zWr s10 12 ((16 : Int32) + v3) 32 (vp_nar .boolean x11) fun s12 => zLt (v3 + (1 : Int32)) fun x13 => m_X8_tries_j2 n f v1 v2 x13 s12)
def m_X8_tries (n : Nat) (v1 : Int32) (v2 : Int32) (s : zS) : Option (Int32 × zS) :=
  m_X8_tries_j2  n n v1 v2 (0 : Int32) s
def m_X8_halves_j14 (n : Nat) : Nat → Int32 → Int32 → Int32 → zS → Option (Int32 × zS)
  | 0, _, _, _, _ => none
  | f + 1, v1, v2, v3, s =>
    if v3 ≤ v2 then (zWr s 11 v1 32 v2 fun s2 => zWr s2 12 v1 32 (vp_nar .boolean (1 : Int32)) fun s3 => zRt 0 s3) else (zLt (v3 - ((v3 - v2) / (2 : Int32))) fun x4 => zBd (m_X8_tries n v1 x4 s) fun x5 s6 => zRd (s6 3) v1 16 fun x7 => zRd (s6 11) ((16 : Int32) + x7) 32 fun x8 => if x8 < x4 then (zLt (x4 - (1 : Int32)) fun x10 => m_X8_halves_j14 n f v1 v2 x10 s6) else (m_X8_halves_j14 n f v1 x4 v3 s6))
def m_X8_halves (n : Nat) (v1 : Int32) (s : zS) : Option (Int32 × zS) :=
  zRd (s 2) v1 16 fun x11 => zRd (s 11) x11 32 fun x12 => m_X8_halves_j14  n n v1 (0 : Int32) x12 s
def m_X8_solves_j127 (rec53 : Int32 → zS → Option (Int32 × zS)) (rec62 : Int32 → Int32 → zS → Option (Int32 × zS)) (n : Nat) (v3 : Int32) (v4 : Int32) (s : zS) : Option (Int32 × zS) :=
  zLt (v4 + (1 : Int32)) fun x1 => rec62 v3 x1 s
def m_X8_solves_j62 (rec53 : Int32 → zS → Option (Int32 × zS)) (n : Nat) : Nat → Int32 → Int32 → zS → Option (Int32 × zS)
  | 0, _, _, _ => none
  | f + 1, v3, v4, s =>
    if (16 : Int32) ≤ v4 then (zLt (v3 + (1 : Int32)) fun x3 => rec53 x3 s) else (zRd (s 1) v4 16 fun x4 => if x4 = (8 : Int32) then (zRd (s 12) v4 32 fun x6 => if x6 = 0 then (zRd (s 2) v4 16 fun x8 => zRd (s 12) x8 32 fun x9 => if x9 = 0 then (m_X8_solves_j127 rec53 (m_X8_solves_j62 rec53 n f) n v3 v4 s) else (zBd (m_X8_tries n v4 (0 : Int32) s) fun x11 s12 => if x11 = 0 then (m_X8_solves_j127 rec53 (m_X8_solves_j62 rec53 n f) n v3 v4 s12) else (zBd (m_X8_halves n v4 s12) fun x14 s15 => zBd (m_X8_passes n (0 : Int32) s15) fun x16 s17 => m_X8_solves_j127 rec53 (m_X8_solves_j62 rec53 n f) n v3 v4 s17))) else (m_X8_solves_j127 rec53 (m_X8_solves_j62 rec53 n f) n v3 v4 s)) else (m_X8_solves_j127 rec53 (m_X8_solves_j62 rec53 n f) n v3 v4 s))
def m_X8_solves_j53 (n : Nat) : Nat → Int32 → zS → Option (Int32 × zS)
  | 0, _, _ => none
  | f + 1, v3, s =>
    if (16 : Int32) ≤ v3 then (zRt 0 s) else (m_X8_solves_j62 (m_X8_solves_j53 n f) n n v3 (0 : Int32) s)
def m_X8_solves_j23 (rec2 : Int32 → Int32 → Int32 → zS → Option (Int32 × zS)) (n : Nat) (v1 : Int32) (v2 : Int32) (v3 : Int32) (t1 : Int32) (t2 : Int32) (s : zS) : Option (Int32 × zS) :=
  zWr s 12 t1 32 (vp_nar .boolean t2) fun s19 => if v3 = v1 then (zWr s19 11 v3 32 v2 fun s23 => zLt (v3 + (1 : Int32)) fun x24 => rec2 v1 v2 x24 s23) else (zWr s19 11 v3 32 (0 : Int32) fun s21 => zLt (v3 + (1 : Int32)) fun x22 => rec2 v1 v2 x22 s21)
def m_X8_solves_j2 (n : Nat) : Nat → Int32 → Int32 → Int32 → zS → Option (Int32 × zS)
  | 0, _, _, _, _ => none
  | f + 1, v1, v2, v3, s =>
    if (16 : Int32) ≤ v3 then (zBd (m_X8_passes n (0 : Int32) s) fun x26 s27 => m_X8_solves_j53  n n (0 : Int32) s27) else (if v3 = v1 then (m_X8_solves_j23 (m_X8_solves_j2 n f) n v1 v2 v3 v3 (1 : Int32) s) else (m_X8_solves_j23 (m_X8_solves_j2 n f) n v1 v2 v3 v3 (0 : Int32) s))
def m_X8_solves (n : Nat) (v1 : Int32) (v2 : Int32) (s : zS) : Option (Int32 × zS) :=
  m_X8_solves_j2  n n v1 v2 (0 : Int32) s
def m_X8_value_j13 (n : Nat) (v1 : Int32) (t1 : Int32) (s : zS) : Option (Int32 × zS) :=
  zLt (zU s 0 23 t1) fun s1 => if (s1 0 23) ≤ 0 then (zBd (m_X8_solves n (-1 : Int32) (0 : Int32) s1) fun x3 s4 => zRd (s4 11) v1 32 fun x5 => zRt x5 s4) else (zRt (0 : Int32) s1)
def m_X8_value (n : Nat) (v1 : Int32) (s : zS) : Option (Int32 × zS) :=
  zBd (m_X8_isLine n v1 s) fun x6 s7 => if x6 = 0 then (m_X8_value_j13  n v1 (1 : Int32) s7) else (m_X8_value_j13  n v1 (0 : Int32) s7)
def m_X8_boundFor_j42 (n : Nat) (v1 : Int32) (v2 : Int32) (t1 : Int32) (s : zS) : Option (Int32 × zS) :=
  zLt (zU s 0 23 t1) fun s1 => if (s1 0 23) ≤ 0 then (zBd (m_X8_solves n v1 v2 s1) fun x3 s4 => zRd (s4 3) v1 16 fun x5 => zRd (s4 11) x5 32 fun x6 => zRt x6 s4) else (zRt (0 : Int32) s1)
def m_X8_boundFor (n : Nat) (v1 : Int32) (v2 : Int32) (s : zS) : Option (Int32 × zS) :=
  zBd (m_X8_isLine n v1 s) fun x7 s8 => if x7 = 0 then (m_X8_boundFor_j42  n v1 v2 (1 : Int32) s8) else (zBd (m_X8_isIn n v2 (0 : Int32) (1000000000 : Int32) s8) fun x10 s11 => if x10 = 0 then (m_X8_boundFor_j42  n v1 v2 (2 : Int32) s11) else (zRd (s11 1) v1 16 fun x13 => if x13 = (8 : Int32) then (m_X8_boundFor_j42  n v1 v2 (0 : Int32) s11) else (m_X8_boundFor_j42  n v1 v2 (3 : Int32) s11)))
def m_X8_dependsOn_j20 (n : Nat) (v1 : Int32) (v2 : Int32) (t1 : Int32) (s : zS) : Option (Int32 × zS) :=
  zLt (zU s 0 23 t1) fun s1 => if (s1 0 23) ≤ 0 then (zBd (m_X8_laysNeeds n (-1 : Int32) s1) fun x3 s4 => zBd (m_X8_depends n v1 v2 s4) fun x5 s6 => zGd (vp_nar .boolean x5 = x5) (zRt x5 s6)) else (zRt (0 : Int32) s1)
def m_X8_dependsOn (n : Nat) (v1 : Int32) (v2 : Int32) (s : zS) : Option (Int32 × zS) :=
  zBd (m_X8_isLine n v1 s) fun x8 s9 => if x8 = 0 then (m_X8_dependsOn_j20  n v1 v2 (1 : Int32) s9) else (zBd (m_X8_isLine n v2 s9) fun x11 s12 => if x11 = 0 then (m_X8_dependsOn_j20  n v1 v2 (1 : Int32) s12) else (m_X8_dependsOn_j20  n v1 v2 (0 : Int32) s12))
def m_X8_influence_j96 (n : Nat) : Nat → Int32 → Int32 → zS → Option (Int32 × zS)
  | 0, _, _, _ => none
  | f + 1, v2, v3, s =>
    if (16 : Int32) ≤ v3 then (zRt v2 s) else (zRd (s 11) v3 32 fun x2 => zRd (s 16) v3 16 fun x3 => if x2 = x3 then (zLt (v2 + (0 : Int32)) fun x5 => zLt (v3 + (1 : Int32)) fun x6 => m_X8_influence_j96 n f x5 x6 s) else (zLt (v2 + (1 : Int32)) fun x7 => zLt (v3 + (1 : Int32)) fun x8 => m_X8_influence_j96 n f x7 x8 s))
def m_X8_influence_j42 (n : Nat) : Nat → Int32 → Int32 → zS → Option (Int32 × zS)
  | 0, _, _, _ => none
  | f + 1, v1, v2, s =>
    if (16 : Int32) ≤ v2 then (zRd (s 4) v1 16 fun x10 => zWr s 4 v1 16 (x10 + (1 : Int32)) fun s11 => zBd (m_X8_solves n (-1 : Int32) (0 : Int32) s11) fun x12 s13 => zRd (s13 4) v1 16 fun x14 => zWr s13 4 v1 16 (x14 - (1 : Int32)) fun s15 => m_X8_influence_j96  n n (0 : Int32) (0 : Int32) s15) else (zRd (s 11) v2 32 fun x16 => zWr s 16 v2 16 x16 fun s17 => zLt (v2 + (1 : Int32)) fun x18 => m_X8_influence_j42 n f v1 x18 s17)
def m_X8_influence_j13 (n : Nat) (v1 : Int32) (t1 : Int32) (s : zS) : Option (Int32 × zS) :=
  zLt (zU s 0 23 t1) fun s19 => if 0 < (s19 0 23) then (zRt (0 : Int32) s19) else (zRd (s19 1) v1 16 fun x21 => if x21 = 0 then (zBd (m_X8_solves n (-1 : Int32) (0 : Int32) s19) fun x23 s24 => m_X8_influence_j42  n n v1 (0 : Int32) s24) else (zRt (0 : Int32) s19))
def m_X8_influence (n : Nat) (v1 : Int32) (s : zS) : Option (Int32 × zS) :=
  zBd (m_X8_isLine n v1 s) fun x25 s26 => if x25 = 0 then (m_X8_influence_j13  n v1 (1 : Int32) s26) else (m_X8_influence_j13  n v1 (0 : Int32) s26)
def m_X8_why_j220 (rec52 : Int32 → Int32 → Int32 → Int32 → zS → Option (Int32 × zS)) (n : Nat) (v2 : Int32) (v3 : Int32) (v4 : Int32) (v5 : Int32) (v6 : Int32) (v10 : Int32) (s : zS) : Option (Int32 × zS) :=
  if v10 = 0 then (zLt (v5 + (1 : Int32)) fun x2 => rec52 v2 v3 v4 x2 s) else (zRd (s 3) v6 16 fun x3 => if ((v4 >>> (x3 &&& 31)) &&& (1 : Int32)) = 0 then (zRd (s 3) v6 16 fun x6 => zWr s 15 v3 16 x6 fun s7 => zRd (s7 3) v6 16 fun x8 => zLt (v4 ||| ((1 : Int32) <<< (x8 &&& 31))) fun x9 => zLt (v3 + (1 : Int32)) fun x10 => zLt (v5 + (1 : Int32)) fun x11 => rec52 v2 x10 x9 x11 s7) else (zLt (v5 + (1 : Int32)) fun x5 => rec52 v2 v3 v4 x5 s))
def m_X8_why_j168 (rec52 : Int32 → Int32 → Int32 → Int32 → zS → Option (Int32 × zS)) (n : Nat) (v2 : Int32) (v3 : Int32) (v4 : Int32) (v5 : Int32) (v6 : Int32) (v9 : Int32) (t0 : Int32) (s : zS) : Option (Int32 × zS) :=
  if v9 = 0 then (m_X8_why_j220 rec52 n v2 v3 v4 v5 v6 t0 s) else (zRd (s 2) v6 16 fun x13 => if ((v4 >>> (x13 &&& 31)) &&& (1 : Int32)) = 0 then (zRd (s 2) v6 16 fun x15 => zWr s 15 v3 16 x15 fun s16 => zRd (s16 2) v6 16 fun x17 => zLt (v4 ||| ((1 : Int32) <<< (x17 &&& 31))) fun x18 => zLt (v3 + (1 : Int32)) fun x19 => m_X8_why_j220 rec52 n v2 x19 x18 v5 v6 t0 s16) else (m_X8_why_j220 rec52 n v2 v3 v4 v5 v6 t0 s))
def m_X8_why_j139 (rec52 : Int32 → Int32 → Int32 → Int32 → zS → Option (Int32 × zS)) (n : Nat) (v2 : Int32) (v3 : Int32) (v4 : Int32) (v5 : Int32) (v6 : Int32) (v7 : Int32) (v8 : Int32) (t0 : Int32) (s : zS) : Option (Int32 × zS) :=
  if v7 = (1 : Int32) then (m_X8_why_j168 rec52 n v2 v3 v4 v5 v6 t0 (1 : Int32) s) else (if v7 = (2 : Int32) then (m_X8_why_j168 rec52 n v2 v3 v4 v5 v6 t0 (1 : Int32) s) else (if v8 = 0 then (m_X8_why_j168 rec52 n v2 v3 v4 v5 v6 t0 (0 : Int32) s) else (if t0 = 0 then (m_X8_why_j168 rec52 n v2 v3 v4 v5 v6 t0 (1 : Int32) s) else (m_X8_why_j168 rec52 n v2 v3 v4 v5 v6 t0 (0 : Int32) s))))
def m_X8_why_j100 (rec52 : Int32 → Int32 → Int32 → Int32 → zS → Option (Int32 × zS)) (n : Nat) (v2 : Int32) (v3 : Int32) (v4 : Int32) (v5 : Int32) (v6 : Int32) (v7 : Int32) (t0 : Int32) (s : zS) : Option (Int32 × zS) :=
  if v7 = 0 then (m_X8_why_j139 rec52 n v2 v3 v4 v5 v6 v7 t0 (0 : Int32) s) else (if t0 = 0 then (m_X8_why_j139 rec52 n v2 v3 v4 v5 v6 v7 t0 (1 : Int32) s) else (zRd (s 2) v6 16 fun x26 => zRd (s 11) x26 32 fun x27 => zRd (s 11) v6 32 fun x28 => if x27 = x28 then (m_X8_why_j139 rec52 n v2 v3 v4 v5 v6 v7 t0 (1 : Int32) s) else (m_X8_why_j139 rec52 n v2 v3 v4 v5 v6 v7 t0 (0 : Int32) s)))
def m_X8_why_j52 (n : Nat) : Nat → Int32 → Int32 → Int32 → Int32 → zS → Option (Int32 × zS)
  | 0, _, _, _, _, _ => none
  | f + 1, v2, v3, v4, v5, s =>
    if v3 ≤ v5 then (if v3 ≤ v2 then (zRt (-1 : Int32) s) else (zRd (s 15) v2 16 fun x32 => zRt x32 s)) else (zRd (s 15) v5 16 fun x33 => zRd (s 1) x33 16 fun x34 => if x34 = (4 : Int32) then (m_X8_why_j100 (m_X8_why_j52 n f) n v2 v3 v4 v5 x33 x34 (1 : Int32) s) else (if x34 = (5 : Int32) then (m_X8_why_j100 (m_X8_why_j52 n f) n v2 v3 v4 v5 x33 x34 (1 : Int32) s) else (if x34 = (8 : Int32) then (m_X8_why_j100 (m_X8_why_j52 n f) n v2 v3 v4 v5 x33 x34 (1 : Int32) s) else (m_X8_why_j100 (m_X8_why_j52 n f) n v2 v3 v4 v5 x33 x34 (0 : Int32) s))))
def m_X8_why_j17 (n : Nat) (v1 : Int32) (v2 : Int32) (t1 : Int32) (s : zS) : Option (Int32 × zS) :=
  zLt (zU s 0 23 t1) fun s38 => if (s38 0 23) ≤ 0 then (zBd (m_X8_solves n (-1 : Int32) (0 : Int32) s38) fun x40 s41 => zWr s41 15 (0 : Int32) 16 v1 fun s42 => zLt ((1 : Int32) <<< (v1 &&& 31)) fun x43 => m_X8_why_j52  n n v2 (1 : Int32) x43 (0 : Int32) s42) else (zRt (0 : Int32) s38)
def m_X8_why (n : Nat) (v1 : Int32) (v2 : Int32) (s : zS) : Option (Int32 × zS) :=
  zBd (m_X8_isLine n v1 s) fun x44 s45 => if x44 = 0 then (m_X8_why_j17  n v1 v2 (1 : Int32) s45) else (if v2 < 0 then (m_X8_why_j17  n v1 v2 (1 : Int32) s45) else (m_X8_why_j17  n v1 v2 (0 : Int32) s45))
def m_X8_bracket_j91 (n : Nat) (v1 : Int32) (v2 : Int32) (v3 : Int32) (t1 : Int32) (s : zS) : Option (Int32 × zS) :=
  zLt (zU s 0 23 t1) fun s1 => if (s1 0 23) ≤ 0 then (zWr s1 5 v3 5 v1 fun s3 => zWr s3 6 v3 5 v2 fun s4 => if v3 = (s4 0 4) then (zLt (zU s4 0 4 ((s4 0 4) + (1 : Int32))) fun s7 => zRt (s7 0 4) s7) else (zLt (zU s4 0 4 ((s4 0 4) + (0 : Int32))) fun s6 => zRt (s6 0 4) s6)) else (zRt (0 : Int32) s1)
def m_X8_bracket_j47 (n : Nat) : Nat → Int32 → Int32 → Int32 → Int32 → zS → Option (Int32 × zS)
  | 0, _, _, _, _, _ => none
  | f + 1, v1, v2, v3, v4, s =>
    if (s 0 4) ≤ v4 then (if v3 = (5 : Int32) then (m_X8_bracket_j91  n v1 v2 v3 (2 : Int32) s) else (m_X8_bracket_j91  n v1 v2 v3 (0 : Int32) s)) else (zRd (s 5) v4 5 fun x10 => if x10 = v1 then (zLt (v4 + (1 : Int32)) fun x13 => m_X8_bracket_j47 n f v1 v2 v4 x13 s) else (zLt (v4 + (1 : Int32)) fun x12 => m_X8_bracket_j47 n f v1 v2 v3 x12 s))
def m_X8_bracket_j27 (n : Nat) (v1 : Int32) (v2 : Int32) (t1 : Int32) (s : zS) : Option (Int32 × zS) :=
  zLt (zU s 0 23 t1) fun s14 => if (s14 0 23) ≤ 0 then (zLt (s14 0 4) fun x16 => m_X8_bracket_j47  n n v1 v2 x16 (0 : Int32) s14) else (zRt (0 : Int32) s14)
def m_X8_bracket (n : Nat) (v1 : Int32) (v2 : Int32) (s : zS) : Option (Int32 × zS) :=
  zBd (m_X8_isIn n v1 (0 : Int32) (1000000 : Int32) s) fun x17 s18 => if x17 = 0 then (m_X8_bracket_j27  n v1 v2 (1 : Int32) s18) else (zBd (m_X8_isIn n v2 (0 : Int32) (1000 : Int32) s18) fun x20 s21 => if x20 = 0 then (m_X8_bracket_j27  n v1 v2 (1 : Int32) s21) else (m_X8_bracket_j27  n v1 v2 (0 : Int32) s21))
def m_X8_dropBrackets (n : Nat)  (s : zS) : Option (Int32 × zS) :=
  zLt (zU s 0 23 (0 : Int32)) fun s1 => zLt (s1 0 4) fun x2 => zLt (zU s1 0 4 (0 : Int32)) fun s3 => zRt x2 s3
def m_X8_taxOn_j16 (n : Nat) (v1 : Int32) (t1 : Int32) (s : zS) : Option (Int32 × zS) :=
  zLt (zU s 0 23 t1) fun s1 => if (s1 0 23) ≤ 0 then (zBd (m_X8_taxed n v1 s1) fun x3 s4 => zRt x3 s4) else (zRt (0 : Int32) s1)
def m_X8_taxOn (n : Nat) (v1 : Int32) (s : zS) : Option (Int32 × zS) :=
  zBd (m_X8_isIn n v1 (0 : Int32) (1000000000 : Int32) s) fun x5 s6 => if x5 = 0 then (m_X8_taxOn_j16  n v1 (1 : Int32) s6) else (m_X8_taxOn_j16  n v1 (0 : Int32) s6)
def m_X8_carry_j129 (n : Nat) (v1 : Int32) (v2 : Int32) (v3 : Int32) (s : zS) : Option (Int32 × zS) :=
  zWr s 7 v3 8 v1 fun s1 => zWr s1 8 v3 8 v2 fun s2 => zLt (zU s2 0 8 ((s2 0 8) + (1 : Int32))) fun s3 => zBd (m_X8_all n s3) fun x4 s5 => zRt x4 s5
def m_X8_carry_j79 (n : Nat) : Nat → Int32 → Int32 → Int32 → zS → Option (Int32 × zS)
  | 0, _, _, _, _ => none
  | f + 1, v1, v2, v3, s =>
    if v3 ≤ 0 then (m_X8_carry_j129  n v1 v2 v3 s) else (zRd (s 8) (v3 - (1 : Int32)) 8 fun x7 => if x7 ≤ v2 then (m_X8_carry_j129  n v1 v2 v3 s) else (zRd (s 7) (v3 - (1 : Int32)) 8 fun x9 => zWr s 7 v3 8 x9 fun s10 => zRd (s10 8) (v3 - (1 : Int32)) 8 fun x11 => zWr s10 8 v3 8 x11 fun s12 => zLt (v3 + (-1 : Int32)) fun x13 => m_X8_carry_j79 n f v1 v2 x13 s12))
def m_X8_carry_j62 (n : Nat) (v1 : Int32) (v2 : Int32) (t1 : Int32) (s : zS) : Option (Int32 × zS) :=
  zLt (zU s 0 23 t1) fun s14 => if (s14 0 23) ≤ 0 then (zLt (s14 0 8) fun x16 => m_X8_carry_j79  n n v1 v2 x16 s14) else (zRt (0 : Int32) s14)
def m_X8_carry_j35 (n : Nat) (v1 : Int32) (v2 : Int32) (t1 : Int32) (s : zS) : Option (Int32 × zS) :=
  zLt (zU s 0 23 t1) fun s17 => if (s17 0 23) ≤ 0 then (if (s17 0 8) = (8 : Int32) then (m_X8_carry_j62  n v1 v2 (2 : Int32) s17) else (m_X8_carry_j62  n v1 v2 (0 : Int32) s17)) else (zRt (0 : Int32) s17)
def m_X8_carry (n : Nat) (v1 : Int32) (v2 : Int32) (s : zS) : Option (Int32 × zS) :=
  zBd (m_X8_isIn n v1 (1 : Int32) (1000000 : Int32) s) fun x20 s21 => if x20 = 0 then (m_X8_carry_j35  n v1 v2 (1 : Int32) s21) else (if v2 < (s21 0 7) then (m_X8_carry_j35  n v1 v2 (1 : Int32) s21) else (if (20 : Int32) < (v2 - (s21 0 7)) then (m_X8_carry_j35  n v1 v2 (1 : Int32) s21) else (m_X8_carry_j35  n v1 v2 (0 : Int32) s21)))
def m_X8_carried (n : Nat)  (s : zS) : Option (Int32 × zS) :=
  zLt (zU s 0 23 (0 : Int32)) fun s1 => zBd (m_X8_all n s1) fun x2 s3 => zRt x2 s3
def m_X8_carriedAt_j20 (n : Nat) (v1 : Int32) (t1 : Int32) (s : zS) : Option (Int32 × zS) :=
  zLt (zU s 0 23 t1) fun s1 => if (s1 0 23) ≤ 0 then (zRd (s1 7) v1 8 fun x3 => zRt x3 s1) else (zRt (0 : Int32) s1)
def m_X8_carriedAt (n : Nat) (v1 : Int32) (s : zS) : Option (Int32 × zS) :=
  zBd (m_X8_isIn n v1 (0 : Int32) ((s 0 8) - (1 : Int32)) s) fun x4 s5 => if x4 = 0 then (m_X8_carriedAt_j20  n v1 (1 : Int32) s5) else (m_X8_carriedAt_j20  n v1 (0 : Int32) s5)
def m_X8_year (n : Nat)  (s : zS) : Option (Int32 × zS) :=
  zLt (zU s 0 23 (0 : Int32)) fun s1 => zRt (s1 0 7) s1
def m_X8_spends_j32 (rec4 : Int32 → Int32 → Int32 → zS → Option (Int32 × zS)) (n : Nat) (v1 : Int32) (v2 : Int32) (v3 : Int32) (t0 : Int32) (s : zS) : Option (Int32 × zS) :=
  zRd (s 7) v3 8 fun x1 => zWr s 7 v3 8 (x1 - t0) fun s2 => zLt (v2 - t0) fun x3 => zLt (v3 + (1 : Int32)) fun x4 => rec4 v1 x3 x4 s2
def m_X8_spends_j4 (n : Nat) : Nat → Int32 → Int32 → Int32 → zS → Option (Int32 × zS)
  | 0, _, _, _, _ => none
  | f + 1, v1, v2, v3, s =>
    if (s 0 8) ≤ v3 then (zRt (v1 - v2) s) else (zRd (s 7) v3 8 fun x6 => if v2 ≤ x6 then (m_X8_spends_j32 (m_X8_spends_j4 n f) n v1 v2 v3 v2 s) else (zRd (s 7) v3 8 fun x8 => m_X8_spends_j32 (m_X8_spends_j4 n f) n v1 v2 v3 x8 s))
def m_X8_spends (n : Nat) (v1 : Int32) (s : zS) : Option (Int32 × zS) :=
  m_X8_spends_j4  n n v1 v1 (0 : Int32) s
def m_X8_closeYear_j59 (n : Nat) : Nat → Int32 → Int32 → Int32 → zS → Option (Int32 × zS)
  | 0, _, _, _, _ => none
  | f + 1, v1, v2, v3, s =>
    if (s 0 8) ≤ v3 then (zLt (zU s 0 8 v2) fun s2 => zLt (zU s2 0 7 ((s2 0 7) + (1 : Int32))) fun s3 => zRt v1 s3) else (zRd (s 7) v3 8 fun x4 => if x4 ≤ 0 then (zLt (v3 + (1 : Int32)) fun x6 => m_X8_closeYear_j59 n f v1 v2 x6 s) else (zRd (s 8) v3 8 fun x7 => if x7 ≤ (s 0 7) then (zLt (v3 + (1 : Int32)) fun x9 => m_X8_closeYear_j59 n f v1 v2 x9 s) else (zRd (s 7) v3 8 fun x10 => zWr s 7 v2 8 x10 fun s11 => zRd (s11 8) v3 8 fun x12 => zWr s11 8 v2 8 x12 fun s13 => zLt (v2 + (1 : Int32)) fun x14 => zLt (v3 + (1 : Int32)) fun x15 => m_X8_closeYear_j59 n f v1 x14 x15 s13)))
def m_X8_closeYear_j15 (n : Nat) : Nat → Int32 → Int32 → zS → Option (Int32 × zS)
  | 0, _, _, _ => none
  | f + 1, v1, v2, s =>
    if (16 : Int32) ≤ v2 then (m_X8_closeYear_j59  n n v1 (0 : Int32) (0 : Int32) s) else (zRd (s 1) v2 16 fun x17 => if x17 = (7 : Int32) then (zRd (s 11) v2 32 fun x21 => zBd (m_X8_spends n x21 s) fun x22 s23 => zLt (v1 + x22) fun x24 => zLt (v2 + (1 : Int32)) fun x25 => m_X8_closeYear_j15 n f x24 x25 s23) else (zLt (v1 + (0 : Int32)) fun x19 => zLt (v2 + (1 : Int32)) fun x20 => m_X8_closeYear_j15 n f x19 x20 s))
def m_X8_closeYear (n : Nat)  (s : zS) : Option (Int32 × zS) :=
  zLt (zU s 0 23 (0 : Int32)) fun s26 => zBd (m_X8_solves n (-1 : Int32) (0 : Int32) s26) fun x27 s28 => m_X8_closeYear_j15  n n (0 : Int32) (0 : Int32) s28
def m_X8_addCredit_j39 (n : Nat) (v1 : Int32) (v2 : Int32) (t1 : Int32) (s : zS) : Option (Int32 × zS) :=
  zLt (zU s 0 23 t1) fun s1 => if (s1 0 23) ≤ 0 then (zWr s1 9 (s1 0 11) 5 v1 fun s3 => zWr s3 10 (s3 0 11) 5 v2 fun s4 => zLt (zU s4 0 11 ((s4 0 11) + (1 : Int32))) fun s5 => zRt ((s5 0 11) - (1 : Int32)) s5) else (zRt (0 : Int32) s1)
def m_X8_addCredit (n : Nat) (v1 : Int32) (v2 : Int32) (s : zS) : Option (Int32 × zS) :=
  zBd (m_X8_isIn n v1 (1 : Int32) (1000000 : Int32) s) fun x6 s7 => if x6 = 0 then (m_X8_addCredit_j39  n v1 v2 (1 : Int32) s7) else (zBd (m_X8_isIn n v2 (0 : Int32) (1000 : Int32) s7) fun x9 s10 => if x9 = 0 then (m_X8_addCredit_j39  n v1 v2 (1 : Int32) s10) else (if (s10 0 11) = (5 : Int32) then (m_X8_addCredit_j39  n v1 v2 (2 : Int32) s10) else (m_X8_addCredit_j39  n v1 v2 (0 : Int32) s10)))
def m_X8_dropCredit_j13 (n : Nat) (t1 : Int32) (s : zS) : Option (Int32 × zS) :=
  zLt (zU s 0 23 t1) fun s1 => if (s1 0 23) ≤ 0 then (zLt (zU s1 0 11 ((s1 0 11) - (1 : Int32))) fun s3 => zRt (s3 0 11) s3) else (zRt (0 : Int32) s1)
def m_X8_dropCredit (n : Nat)  (s : zS) : Option (Int32 × zS) :=
  if (s 0 11) = 0 then (m_X8_dropCredit_j13  n (1 : Int32) s) else (m_X8_dropCredit_j13  n (0 : Int32) s)
def m_X8_comes_j42 (rec7 : Int32 → Int32 → Int32 → zS → Option (Int32 × zS)) (n : Nat) (v2 : Int32) (v3 : Int32) (v4 : Int32) (v5 : Int32) (t0 : Int32) (s : zS) : Option (Int32 × zS) :=
  zLt (v2 - t0) fun x1 => zRd (s 17) v4 5 fun x2 => zRd (s 10) x2 5 fun x3 => zLt (v3 + (t0 + (Int64.toInt32 (((Int32.toInt64 (v5 - t0)) * (Int32.toInt64 x3)) / (1000 : Int64))))) fun x4 => zLt (v4 + (1 : Int32)) fun x5 => rec7 x1 x4 x5 s
def m_X8_comes_j7 (n : Nat) : Nat → Int32 → Int32 → Int32 → zS → Option (Int32 × zS)
  | 0, _, _, _, _ => none
  | f + 1, v2, v3, v4, s =>
    if (s 0 11) ≤ v4 then (zRt v3 s) else (zRd (s 17) v4 5 fun x7 => zRd (s 9) x7 5 fun x8 => if v2 ≤ x8 then (m_X8_comes_j42 (m_X8_comes_j7 n f) n v2 v3 v4 x8 v2 s) else (m_X8_comes_j42 (m_X8_comes_j7 n f) n v2 v3 v4 x8 x8 s))
def m_X8_comes (n : Nat) (v1 : Int32) (s : zS) : Option (Int32 × zS) :=
  m_X8_comes_j7  n n v1 (0 : Int32) (0 : Int32) s
def m_X8_laysOrder_j12 (n : Nat) : Nat → Int32 → Int32 → Int32 → zS → Option (Int32 × zS)
  | 0, _, _, _, _ => none
  | f + 1, v2, v3, v4, s =>
    if v4 < 0 then (if v3 = (((1 : Int32) <<< ((s 0 11) &&& 31)) - (1 : Int32)) then (zRt (1 : Int32) s) else (zRt (0 : Int32) s)) else (zGd (¬ (s 0 11) = 0) (zWr s 17 v4 5 (v2 - v2 / (s 0 11) * (s 0 11)) fun s4 => zGd (¬ (s4 0 11) = 0) (zLt (v2 / (s4 0 11)) fun x6 => zRd (s4 17) v4 5 fun x7 => zLt (v3 ||| ((1 : Int32) <<< (x7 &&& 31))) fun x8 => zLt (v4 + (-1 : Int32)) fun x9 => m_X8_laysOrder_j12 n f x6 x8 x9 s4)))
def m_X8_laysOrder (n : Nat) (v1 : Int32) (s : zS) : Option (Int32 × zS) :=
  zLt ((s 0 11) - (1 : Int32)) fun x10 => m_X8_laysOrder_j12  n n v1 (0 : Int32) x10 s
def m_X8_orders_j69 (rec32 : Int32 → Int32 → Int32 → zS → Option (Int32 × zS)) (n : Nat) : Nat → Int32 → Int32 → Int32 → Int32 → zS → Option (Int32 × zS)
  | 0, _, _, _, _, _ => none
  | f + 1, v1, v2, v3, v4, s =>
    if (s 0 11) ≤ v4 then (zLt (v3 + (1 : Int32)) fun x2 => rec32 v1 v2 x2 s) else (zRd (s 17) v4 5 fun x3 => zWr s 18 v4 5 x3 fun s4 => zLt (v4 + (1 : Int32)) fun x5 => m_X8_orders_j69 rec32 n f v1 v2 v3 x5 s4)
def m_X8_orders_j32 (n : Nat) : Nat → Int32 → Int32 → Int32 → zS → Option (Int32 × zS)
  | 0, _, _, _, _ => none
  | f + 1, v1, v2, v3, s =>
    if v2 ≤ v3 then (zRt 0 s) else (zBd (m_X8_laysOrder n v3 s) fun x7 s8 => if x7 = 0 then (zLt (v3 + (1 : Int32)) fun x10 => m_X8_orders_j32 n f v1 v2 x10 s8) else (zBd (m_X8_comes n v1 s8) fun x11 s12 => if x11 ≤ (s12 0 22) then (zLt (v3 + (1 : Int32)) fun x14 => m_X8_orders_j32 n f v1 v2 x14 s12) else (zBd (m_X8_comes n v1 s12) fun x15 s16 => zLt (zU s16 0 22 x15) fun s17 => m_X8_orders_j69 (m_X8_orders_j32 n f) n n v1 v2 v3 (0 : Int32) s17)))
def m_X8_orders_j4 (n : Nat) : Nat → Int32 → Int32 → Int32 → zS → Option (Int32 × zS)
  | 0, _, _, _, _ => none
  | f + 1, v1, v2, v3, s =>
    if (s 0 11) ≤ v3 then (zLt (zU s 0 22 (-1 : Int32)) fun s19 => m_X8_orders_j32  n n v1 v2 (0 : Int32) s19) else (zLt (v2 * (s 0 11)) fun x20 => zLt (v3 + (1 : Int32)) fun x21 => m_X8_orders_j4 n f v1 x20 x21 s)
def m_X8_orders (n : Nat) (v1 : Int32) (s : zS) : Option (Int32 × zS) :=
  m_X8_orders_j4  n n v1 (1 : Int32) (0 : Int32) s
def m_X8_creditAt_j27 (n : Nat) (v1 : Int32) (v2 : Int32) (t1 : Int32) (s : zS) : Option (Int32 × zS) :=
  zLt (zU s 0 23 t1) fun s1 => if (s1 0 23) ≤ 0 then (zBd (m_X8_solves n (-1 : Int32) (0 : Int32) s1) fun x3 s4 => zRd (s4 11) v1 32 fun x5 => zBd (m_X8_orders n x5 s4) fun x6 s7 => zRd (s7 18) v2 5 fun x8 => zRt x8 s7) else (zRt (0 : Int32) s1)
def m_X8_creditAt (n : Nat) (v1 : Int32) (v2 : Int32) (s : zS) : Option (Int32 × zS) :=
  zBd (m_X8_isLine n v1 s) fun x9 s10 => if x9 = 0 then (m_X8_creditAt_j27  n v1 v2 (1 : Int32) s10) else (zBd (m_X8_isIn n v2 (0 : Int32) ((s10 0 11) - (1 : Int32)) s10) fun x12 s13 => if x12 = 0 then (m_X8_creditAt_j27  n v1 v2 (1 : Int32) s13) else (m_X8_creditAt_j27  n v1 v2 (0 : Int32) s13))
def m_X8_afterCredits_j40 (n : Nat) : Nat → Int32 → Int32 → zS → Option (Int32 × zS)
  | 0, _, _, _ => none
  | f + 1, v2, v3, s =>
    if (s 0 11) ≤ v3 then (zRt v2 s) else (zRd (s 9) v3 5 fun x2 => if v2 ≤ x2 then (zLt (v2 - v2) fun x4 => zLt (v3 + (1 : Int32)) fun x5 => m_X8_afterCredits_j40 n f x4 x5 s) else (zRd (s 9) v3 5 fun x6 => zLt (v2 - x6) fun x7 => zLt (v3 + (1 : Int32)) fun x8 => m_X8_afterCredits_j40 n f x7 x8 s))
def m_X8_afterCredits_j13 (n : Nat) (v1 : Int32) (t1 : Int32) (s : zS) : Option (Int32 × zS) :=
  zLt (zU s 0 23 t1) fun s9 => if (s9 0 23) ≤ 0 then (zBd (m_X8_solves n (-1 : Int32) (0 : Int32) s9) fun x11 s12 => zRd (s12 11) v1 32 fun x13 => m_X8_afterCredits_j40  n n x13 (0 : Int32) s12) else (zRt (0 : Int32) s9)
def m_X8_afterCredits (n : Nat) (v1 : Int32) (s : zS) : Option (Int32 × zS) :=
  zBd (m_X8_isLine n v1 s) fun x14 s15 => if x14 = 0 then (m_X8_afterCredits_j13  n v1 (1 : Int32) s15) else (m_X8_afterCredits_j13  n v1 (0 : Int32) s15)
def m_X8_bestSum_j13 (n : Nat) (v1 : Int32) (t1 : Int32) (s : zS) : Option (Int32 × zS) :=
  zLt (zU s 0 23 t1) fun s1 => if (s1 0 23) ≤ 0 then (zBd (m_X8_solves n (-1 : Int32) (0 : Int32) s1) fun x3 s4 => zRd (s4 11) v1 32 fun x5 => zBd (m_X8_orders n x5 s4) fun x6 s7 => zRt (s7 0 22) s7) else (zRt (0 : Int32) s1)
def m_X8_bestSum (n : Nat) (v1 : Int32) (s : zS) : Option (Int32 × zS) :=
  zBd (m_X8_isLine n v1 s) fun x8 s9 => if x8 = 0 then (m_X8_bestSum_j13  n v1 (1 : Int32) s9) else (m_X8_bestSum_j13  n v1 (0 : Int32) s9)

def m_L_define (n : Nat) (v1 : Int32) (v2 : Int32) (v3 : Int32) (v4 : Int32) (s : zS) : Option (Int32 × zS) :=
  zHx (m_X7_define n v1 v2 v3 v4 (zSo s 0)) (fun k s2 => if k = 1 then zRt (1 : Int32) (zMix 0 27 s s2) else if k = 2 then zRt (2 : Int32) (zMix 0 27 s s2) else if k = 3 then zRt (3 : Int32) (zMix 0 27 s s2) else none) fun x1 s2 => zLt (zMix 0 27 s s2) fun s3 => zRt (0 : Int32) s3
def m_L_answer (n : Nat) (v1 : Int32) (v2 : Int32) (s : zS) : Option (Int32 × zS) :=
  zHx (m_X7_answer n v1 v2 (zSo s 0)) (fun k s2 => if k = 1 then zRt (1 : Int32) (zMix 0 27 s s2) else if k = 2 then zRt (2 : Int32) (zMix 0 27 s s2) else none) fun x1 s2 => zLt (zMix 0 27 s s2) fun s3 => zWr s3 46 (0 : Int32) 1 x1 fun s4 => zRt (0 : Int32) s4
def m_L_kindOf (n : Nat) (v1 : Int32) (s : zS) : Option (Int32 × zS) :=
  zHx (m_X7_kindOf n v1 (zSo s 0)) (fun k s2 => if k = 1 then zRt (1 : Int32) (zMix 0 27 s s2) else none) fun x1 s2 => zLt (zMix 0 27 s s2) fun s3 => zWr s3 46 (0 : Int32) 1 x1 fun s4 => zRt (0 : Int32) s4
def m_L_value (n : Nat) (v1 : Int32) (s : zS) : Option (Int32 × zS) :=
  zHx (m_X7_value n v1 (zSo s 0)) (fun k s2 => if k = 1 then zRt (1 : Int32) (zMix 0 27 s s2) else none) fun x1 s2 => zLt (zMix 0 27 s s2) fun s3 => zWr s3 46 (0 : Int32) 1 x1 fun s4 => zRt (0 : Int32) s4
def m_L_boundFor (n : Nat) (v1 : Int32) (v2 : Int32) (s : zS) : Option (Int32 × zS) :=
  zHx (m_X7_boundFor n v1 v2 (zSo s 0)) (fun k s2 => if k = 1 then zRt (1 : Int32) (zMix 0 27 s s2) else if k = 2 then zRt (2 : Int32) (zMix 0 27 s s2) else if k = 3 then zRt (3 : Int32) (zMix 0 27 s s2) else none) fun x1 s2 => zLt (zMix 0 27 s s2) fun s3 => zWr s3 46 (0 : Int32) 1 x1 fun s4 => zRt (0 : Int32) s4
def m_L_dependsOn (n : Nat) (v1 : Int32) (v2 : Int32) (s : zS) : Option (Int32 × zS) :=
  zHx (m_X7_dependsOn n v1 v2 (zSo s 0)) (fun k s2 => if k = 1 then zRt (1 : Int32) (zMix 0 27 s s2) else none) fun x1 s2 => zLt (zMix 0 27 s s2) fun s3 => if x1 = 0 then (zWr s3 46 (0 : Int32) 1 (0 : Int32) fun s5 => zRt (0 : Int32) s5) else (zWr s3 46 (0 : Int32) 1 (1 : Int32) fun s6 => zRt (0 : Int32) s6)
def m_L_influence (n : Nat) (v1 : Int32) (s : zS) : Option (Int32 × zS) :=
  zHx (m_X7_influence n v1 (zSo s 0)) (fun k s2 => if k = 1 then zRt (1 : Int32) (zMix 0 27 s s2) else none) fun x1 s2 => zLt (zMix 0 27 s s2) fun s3 => zWr s3 46 (0 : Int32) 1 x1 fun s4 => zRt (0 : Int32) s4
def m_L_why (n : Nat) (v1 : Int32) (v2 : Int32) (s : zS) : Option (Int32 × zS) :=
  zHx (m_X7_why n v1 v2 (zSo s 0)) (fun k s2 => if k = 1 then zRt (1 : Int32) (zMix 0 27 s s2) else none) fun x1 s2 => zLt (zMix 0 27 s s2) fun s3 => zWr s3 46 (0 : Int32) 1 x1 fun s4 => zRt (0 : Int32) s4
def m_L_bracket (n : Nat) (v1 : Int32) (v2 : Int32) (s : zS) : Option (Int32 × zS) :=
  zHx (m_X7_bracket n v1 v2 (zSo s 0)) (fun k s2 => if k = 2 then zRt (1 : Int32) (zMix 0 27 s s2) else if k = 3 then zRt (2 : Int32) (zMix 0 27 s s2) else none) fun x1 s2 => zLt (zMix 0 27 s s2) fun s3 => zWr s3 46 (0 : Int32) 1 x1 fun s4 => zRt (0 : Int32) s4
def m_L_taxOn (n : Nat) (v1 : Int32) (s : zS) : Option (Int32 × zS) :=
  zHx (m_X7_taxOn n v1 (zSo s 0)) (fun k s2 => if k = 2 then zRt (1 : Int32) (zMix 0 27 s s2) else none) fun x1 s2 => zLt (zMix 0 27 s s2) fun s3 => zWr s3 46 (0 : Int32) 1 x1 fun s4 => zRt (0 : Int32) s4
def m_L_carry (n : Nat) (v1 : Int32) (v2 : Int32) (s : zS) : Option (Int32 × zS) :=
  zHx (m_X7_carry n v1 v2 (zSo s 0)) (fun k s2 => if k = 2 then zRt (1 : Int32) (zMix 0 27 s s2) else if k = 3 then zRt (2 : Int32) (zMix 0 27 s s2) else none) fun x1 s2 => zLt (zMix 0 27 s s2) fun s3 => zWr s3 46 (0 : Int32) 1 x1 fun s4 => zRt (0 : Int32) s4
def m_L_carriedAt (n : Nat) (v1 : Int32) (s : zS) : Option (Int32 × zS) :=
  zHx (m_X7_carriedAt n v1 (zSo s 0)) (fun k s2 => if k = 1 then zRt (1 : Int32) (zMix 0 27 s s2) else none) fun x1 s2 => zLt (zMix 0 27 s s2) fun s3 => zWr s3 46 (0 : Int32) 1 x1 fun s4 => zRt (0 : Int32) s4
def m_L_addCredit (n : Nat) (v1 : Int32) (v2 : Int32) (s : zS) : Option (Int32 × zS) :=
  zHx (m_X7_addCredit n v1 v2 (zSo s 0)) (fun k s2 => if k = 2 then zRt (1 : Int32) (zMix 0 27 s s2) else if k = 3 then zRt (2 : Int32) (zMix 0 27 s s2) else none) fun x1 s2 => zLt (zMix 0 27 s s2) fun s3 => zWr s3 46 (0 : Int32) 1 x1 fun s4 => zRt (0 : Int32) s4
def m_L_dropCredit (n : Nat)  (s : zS) : Option (Int32 × zS) :=
  zHx (m_X7_dropCredit n (zSo s 0)) (fun k s2 => if k = 3 then zRt (1 : Int32) (zMix 0 27 s s2) else none) fun x1 s2 => zLt (zMix 0 27 s s2) fun s3 => zWr s3 46 (0 : Int32) 1 x1 fun s4 => zRt (0 : Int32) s4
def m_L_creditAt (n : Nat) (v1 : Int32) (v2 : Int32) (s : zS) : Option (Int32 × zS) :=
  zHx (m_X7_creditAt n v1 v2 (zSo s 0)) (fun k s2 => if k = 1 then zRt (1 : Int32) (zMix 0 27 s s2) else none) fun x1 s2 => zLt (zMix 0 27 s s2) fun s3 => zWr s3 46 (0 : Int32) 1 x1 fun s4 => zRt (0 : Int32) s4
def m_L_afterCredits (n : Nat) (v1 : Int32) (s : zS) : Option (Int32 × zS) :=
  zHx (m_X7_afterCredits n v1 (zSo s 0)) (fun k s2 => if k = 1 then zRt (1 : Int32) (zMix 0 27 s s2) else none) fun x1 s2 => zLt (zMix 0 27 s s2) fun s3 => zWr s3 46 (0 : Int32) 1 x1 fun s4 => zRt (0 : Int32) s4
def m_L_bestSum (n : Nat) (v1 : Int32) (s : zS) : Option (Int32 × zS) :=
  zHx (m_X7_bestSum n v1 (zSo s 0)) (fun k s2 => if k = 1 then zRt (1 : Int32) (zMix 0 27 s s2) else none) fun x1 s2 => zLt (zMix 0 27 s s2) fun s3 => zWr s3 46 (0 : Int32) 1 x1 fun s4 => zRt (0 : Int32) s4
def m_L_law_c0 (rec : Int32 → zS → Option (Int32 × zS)) (n N : Nat) (xs : Nat → Int32) (v4 : Int32) (s : zS) : Option (Int32 × zS) :=
  zRd xs (v4 + (1 : Int32)) N fun x5 => zRd xs (v4 + (2 : Int32)) N fun x6 => zRd xs (v4 + (3 : Int32)) N fun x7 => zRd xs (v4 + (4 : Int32)) N fun x8 => zBd (m_L_define n x5 x6 x7 x8 s) fun x9 s10 => zRd xs (v4 + (1 : Int32)) N fun x11 => zRd xs (v4 + (2 : Int32)) N fun x12 => zRd xs (v4 + (3 : Int32)) N fun x13 => zRd xs (v4 + (4 : Int32)) N fun x14 => zBd (m_X8_define n x11 x12 x13 x14 (zSo s10 27)) fun x15 s16 => zLt (zMix 27 19 s10 s16) fun s17 => zBd (m_X8_thrown n (zSo s17 27)) fun x18 s19 => zLt (zMix 27 19 s17 s19) fun s20 => if x18 = x9 then (zLt (v4 + (5 : Int32)) fun x22 => rec x22 s20) else (zRt (0 : Int32) s20)
def m_L_law_c1 (rec : Int32 → zS → Option (Int32 × zS)) (n N : Nat) (xs : Nat → Int32) (v4 : Int32) (s : zS) : Option (Int32 × zS) :=
  zRd xs (v4 + (1 : Int32)) N fun x24 => zRd xs (v4 + (2 : Int32)) N fun x25 => zBd (m_L_answer n x24 x25 s) fun x26 s27 => zRd xs (v4 + (1 : Int32)) N fun x28 => zRd xs (v4 + (2 : Int32)) N fun x29 => zBd (m_X8_answer n x28 x29 (zSo s27 27)) fun x30 s31 => zLt (zMix 27 19 s27 s31) fun s32 => zBd (m_X8_thrown n (zSo s32 27)) fun x33 s34 => zLt (zMix 27 19 s32 s34) fun s35 => if x33 = x26 then (if x26 = 0 then (zRd (s35 46) (0 : Int32) 1 fun x39 => if (lg_cmp (Int32.toInt64 x39) (Int32.toInt64 x30)) = 0 then (zLt (v4 + (5 : Int32)) fun x41 => rec x41 s35) else (zRt (0 : Int32) s35)) else (zLt (v4 + (5 : Int32)) fun x38 => rec x38 s35)) else (zRt (0 : Int32) s35)
def m_L_law_c2 (rec : Int32 → zS → Option (Int32 × zS)) (n N : Nat) (xs : Nat → Int32) (v4 : Int32) (s : zS) : Option (Int32 × zS) :=
  zRd xs (v4 + (1 : Int32)) N fun x43 => zBd (m_L_kindOf n x43 s) fun x44 s45 => zRd xs (v4 + (1 : Int32)) N fun x46 => zBd (m_X8_kindOf n x46 (zSo s45 27)) fun x47 s48 => zLt (zMix 27 19 s45 s48) fun s49 => zBd (m_X8_thrown n (zSo s49 27)) fun x50 s51 => zLt (zMix 27 19 s49 s51) fun s52 => if x50 = x44 then (if x44 = 0 then (zRd (s52 46) (0 : Int32) 1 fun x56 => if (lg_cmp (Int32.toInt64 x56) (Int32.toInt64 x47)) = 0 then (zLt (v4 + (5 : Int32)) fun x58 => rec x58 s52) else (zRt (0 : Int32) s52)) else (zLt (v4 + (5 : Int32)) fun x55 => rec x55 s52)) else (zRt (0 : Int32) s52)
def m_L_law_c3 (rec : Int32 → zS → Option (Int32 × zS)) (n N : Nat) (xs : Nat → Int32) (v4 : Int32) (s : zS) : Option (Int32 × zS) :=
  zRd xs (v4 + (1 : Int32)) N fun x60 => zBd (m_L_value n x60 s) fun x61 s62 => zRd xs (v4 + (1 : Int32)) N fun x63 => zBd (m_X8_value n x63 (zSo s62 27)) fun x64 s65 => zLt (zMix 27 19 s62 s65) fun s66 => zBd (m_X8_thrown n (zSo s66 27)) fun x67 s68 => zLt (zMix 27 19 s66 s68) fun s69 => if x67 = x61 then (if x61 = 0 then (zRd (s69 46) (0 : Int32) 1 fun x73 => if (lg_cmp (Int32.toInt64 x73) (Int32.toInt64 x64)) = 0 then (zLt (v4 + (5 : Int32)) fun x75 => rec x75 s69) else (zRt (0 : Int32) s69)) else (zLt (v4 + (5 : Int32)) fun x72 => rec x72 s69)) else (zRt (0 : Int32) s69)
def m_L_law_c4 (rec : Int32 → zS → Option (Int32 × zS)) (n N : Nat) (xs : Nat → Int32) (v4 : Int32) (s : zS) : Option (Int32 × zS) :=
  zRd xs (v4 + (1 : Int32)) N fun x77 => zRd xs (v4 + (2 : Int32)) N fun x78 => zBd (m_L_boundFor n x77 x78 s) fun x79 s80 => zRd xs (v4 + (1 : Int32)) N fun x81 => zRd xs (v4 + (2 : Int32)) N fun x82 => zBd (m_X8_boundFor n x81 x82 (zSo s80 27)) fun x83 s84 => zLt (zMix 27 19 s80 s84) fun s85 => zBd (m_X8_thrown n (zSo s85 27)) fun x86 s87 => zLt (zMix 27 19 s85 s87) fun s88 => if x86 = x79 then (if x79 = 0 then (zRd (s88 46) (0 : Int32) 1 fun x92 => if (lg_cmp (Int32.toInt64 x92) (Int32.toInt64 x83)) = 0 then (zLt (v4 + (5 : Int32)) fun x94 => rec x94 s88) else (zRt (0 : Int32) s88)) else (zLt (v4 + (5 : Int32)) fun x91 => rec x91 s88)) else (zRt (0 : Int32) s88)
def m_L_law_c5 (rec : Int32 → zS → Option (Int32 × zS)) (n N : Nat) (xs : Nat → Int32) (v4 : Int32) (s : zS) : Option (Int32 × zS) :=
  zRd xs (v4 + (1 : Int32)) N fun x96 => zRd xs (v4 + (2 : Int32)) N fun x97 => zBd (m_L_dependsOn n x96 x97 s) fun x98 s99 => zRd xs (v4 + (1 : Int32)) N fun x100 => zRd xs (v4 + (2 : Int32)) N fun x101 => zBd (m_X8_dependsOn n x100 x101 (zSo s99 27)) fun x102 s103 => zLt (zMix 27 19 s99 s103) fun s104 => zBd (m_X8_thrown n (zSo s104 27)) fun x105 s106 => zLt (zMix 27 19 s104 s106) fun s107 => if x105 = x98 then (if x98 = 0 then (zRd (s107 46) (0 : Int32) 1 fun x111 => if x102 = 0 then (if (lg_cmp (Int32.toInt64 x111) (0 : Int64)) = 0 then (zLt (v4 + (5 : Int32)) fun x114 => rec x114 s107) else (zRt (0 : Int32) s107)) else (if (lg_cmp (Int32.toInt64 x111) (1 : Int64)) = 0 then (zLt (v4 + (5 : Int32)) fun x116 => rec x116 s107) else (zRt (0 : Int32) s107))) else (zLt (v4 + (5 : Int32)) fun x110 => rec x110 s107)) else (zRt (0 : Int32) s107)
def m_L_law_c6 (rec : Int32 → zS → Option (Int32 × zS)) (n N : Nat) (xs : Nat → Int32) (v4 : Int32) (s : zS) : Option (Int32 × zS) :=
  zRd xs (v4 + (1 : Int32)) N fun x118 => zBd (m_L_influence n x118 s) fun x119 s120 => zRd xs (v4 + (1 : Int32)) N fun x121 => zBd (m_X8_influence n x121 (zSo s120 27)) fun x122 s123 => zLt (zMix 27 19 s120 s123) fun s124 => zBd (m_X8_thrown n (zSo s124 27)) fun x125 s126 => zLt (zMix 27 19 s124 s126) fun s127 => if x125 = x119 then (if x119 = 0 then (zRd (s127 46) (0 : Int32) 1 fun x131 => if (lg_cmp (Int32.toInt64 x131) (Int32.toInt64 x122)) = 0 then (zLt (v4 + (5 : Int32)) fun x133 => rec x133 s127) else (zRt (0 : Int32) s127)) else (zLt (v4 + (5 : Int32)) fun x130 => rec x130 s127)) else (zRt (0 : Int32) s127)
def m_L_law_c7 (rec : Int32 → zS → Option (Int32 × zS)) (n N : Nat) (xs : Nat → Int32) (v4 : Int32) (s : zS) : Option (Int32 × zS) :=
  zRd xs (v4 + (1 : Int32)) N fun x135 => zRd xs (v4 + (2 : Int32)) N fun x136 => zBd (m_L_why n x135 x136 s) fun x137 s138 => zRd xs (v4 + (1 : Int32)) N fun x139 => zRd xs (v4 + (2 : Int32)) N fun x140 => zBd (m_X8_why n x139 x140 (zSo s138 27)) fun x141 s142 => zLt (zMix 27 19 s138 s142) fun s143 => zBd (m_X8_thrown n (zSo s143 27)) fun x144 s145 => zLt (zMix 27 19 s143 s145) fun s146 => if x144 = x137 then (if x137 = 0 then (zRd (s146 46) (0 : Int32) 1 fun x150 => if (lg_cmp (Int32.toInt64 x150) (Int32.toInt64 x141)) = 0 then (zLt (v4 + (5 : Int32)) fun x152 => rec x152 s146) else (zRt (0 : Int32) s146)) else (zLt (v4 + (5 : Int32)) fun x149 => rec x149 s146)) else (zRt (0 : Int32) s146)
def m_L_law_c8 (rec : Int32 → zS → Option (Int32 × zS)) (n N : Nat) (xs : Nat → Int32) (v4 : Int32) (s : zS) : Option (Int32 × zS) :=
  zRd xs (v4 + (1 : Int32)) N fun x154 => zRd xs (v4 + (2 : Int32)) N fun x155 => zBd (m_L_bracket n x154 x155 s) fun x156 s157 => zRd xs (v4 + (1 : Int32)) N fun x158 => zRd xs (v4 + (2 : Int32)) N fun x159 => zBd (m_X8_bracket n x158 x159 (zSo s157 27)) fun x160 s161 => zLt (zMix 27 19 s157 s161) fun s162 => zBd (m_X8_thrown n (zSo s162 27)) fun x163 s164 => zLt (zMix 27 19 s162 s164) fun s165 => if x163 = x156 then (if x156 = 0 then (zRd (s165 46) (0 : Int32) 1 fun x169 => if (lg_cmp (Int32.toInt64 x169) (Int32.toInt64 x160)) = 0 then (zLt (v4 + (5 : Int32)) fun x171 => rec x171 s165) else (zRt (0 : Int32) s165)) else (zLt (v4 + (5 : Int32)) fun x168 => rec x168 s165)) else (zRt (0 : Int32) s165)
def m_L_law_c9 (rec : Int32 → zS → Option (Int32 × zS)) (n N : Nat) (xs : Nat → Int32) (v4 : Int32) (s : zS) : Option (Int32 × zS) :=
  zBd (m_X7_dropBrackets n (zSo s 0)) fun x173 s174 => zLt (zMix 0 27 s s174) fun s175 => zBd (m_X8_dropBrackets n (zSo s175 27)) fun x176 s177 => zLt (zMix 27 19 s175 s177) fun s178 => if x173 = x176 then (zLt (v4 + (5 : Int32)) fun x180 => rec x180 s178) else (zRt (0 : Int32) s178)
def m_L_law_c10 (rec : Int32 → zS → Option (Int32 × zS)) (n N : Nat) (xs : Nat → Int32) (v4 : Int32) (s : zS) : Option (Int32 × zS) :=
  zRd xs (v4 + (1 : Int32)) N fun x182 => zBd (m_L_taxOn n x182 s) fun x183 s184 => zRd xs (v4 + (1 : Int32)) N fun x185 => zBd (m_X8_taxOn n x185 (zSo s184 27)) fun x186 s187 => zLt (zMix 27 19 s184 s187) fun s188 => zBd (m_X8_thrown n (zSo s188 27)) fun x189 s190 => zLt (zMix 27 19 s188 s190) fun s191 => if x189 = x183 then (if x183 = 0 then (zRd (s191 46) (0 : Int32) 1 fun x195 => if (lg_cmp (Int32.toInt64 x195) (Int32.toInt64 x186)) = 0 then (zLt (v4 + (5 : Int32)) fun x197 => rec x197 s191) else (zRt (0 : Int32) s191)) else (zLt (v4 + (5 : Int32)) fun x194 => rec x194 s191)) else (zRt (0 : Int32) s191)
def m_L_law_c11 (rec : Int32 → zS → Option (Int32 × zS)) (n N : Nat) (xs : Nat → Int32) (v4 : Int32) (s : zS) : Option (Int32 × zS) :=
  zRd xs (v4 + (1 : Int32)) N fun x199 => zRd xs (v4 + (2 : Int32)) N fun x200 => zBd (m_L_carry n x199 x200 s) fun x201 s202 => zRd xs (v4 + (1 : Int32)) N fun x203 => zRd xs (v4 + (2 : Int32)) N fun x204 => zBd (m_X8_carry n x203 x204 (zSo s202 27)) fun x205 s206 => zLt (zMix 27 19 s202 s206) fun s207 => zBd (m_X8_thrown n (zSo s207 27)) fun x208 s209 => zLt (zMix 27 19 s207 s209) fun s210 => if x208 = x201 then (if x201 = 0 then (zRd (s210 46) (0 : Int32) 1 fun x214 => if (lg_cmp (Int32.toInt64 x214) (Int32.toInt64 x205)) = 0 then (zLt (v4 + (5 : Int32)) fun x216 => rec x216 s210) else (zRt (0 : Int32) s210)) else (zLt (v4 + (5 : Int32)) fun x213 => rec x213 s210)) else (zRt (0 : Int32) s210)
def m_L_law_c12 (rec : Int32 → zS → Option (Int32 × zS)) (n N : Nat) (xs : Nat → Int32) (v4 : Int32) (s : zS) : Option (Int32 × zS) :=
  zBd (m_X7_carried n (zSo s 0)) fun x218 s219 => zLt (zMix 0 27 s s219) fun s220 => zBd (m_X8_carried n (zSo s220 27)) fun x221 s222 => zLt (zMix 27 19 s220 s222) fun s223 => if x218 = x221 then (zLt (v4 + (5 : Int32)) fun x225 => rec x225 s223) else (zRt (0 : Int32) s223)
def m_L_law_c13 (rec : Int32 → zS → Option (Int32 × zS)) (n N : Nat) (xs : Nat → Int32) (v4 : Int32) (s : zS) : Option (Int32 × zS) :=
  zRd xs (v4 + (1 : Int32)) N fun x227 => zBd (m_L_carriedAt n x227 s) fun x228 s229 => zRd xs (v4 + (1 : Int32)) N fun x230 => zBd (m_X8_carriedAt n x230 (zSo s229 27)) fun x231 s232 => zLt (zMix 27 19 s229 s232) fun s233 => zBd (m_X8_thrown n (zSo s233 27)) fun x234 s235 => zLt (zMix 27 19 s233 s235) fun s236 => if x234 = x228 then (if x228 = 0 then (zRd (s236 46) (0 : Int32) 1 fun x240 => if (lg_cmp (Int32.toInt64 x240) (Int32.toInt64 x231)) = 0 then (zLt (v4 + (5 : Int32)) fun x242 => rec x242 s236) else (zRt (0 : Int32) s236)) else (zLt (v4 + (5 : Int32)) fun x239 => rec x239 s236)) else (zRt (0 : Int32) s236)
def m_L_law_c14 (rec : Int32 → zS → Option (Int32 × zS)) (n N : Nat) (xs : Nat → Int32) (v4 : Int32) (s : zS) : Option (Int32 × zS) :=
  zBd (m_X7_year n (zSo s 0)) fun x244 s245 => zLt (zMix 0 27 s s245) fun s246 => zBd (m_X8_year n (zSo s246 27)) fun x247 s248 => zLt (zMix 27 19 s246 s248) fun s249 => if x244 = x247 then (zLt (v4 + (5 : Int32)) fun x251 => rec x251 s249) else (zRt (0 : Int32) s249)
def m_L_law_c15 (rec : Int32 → zS → Option (Int32 × zS)) (n N : Nat) (xs : Nat → Int32) (v4 : Int32) (s : zS) : Option (Int32 × zS) :=
  zBd (m_X7_closeYear n (zSo s 0)) fun x253 s254 => zLt (zMix 0 27 s s254) fun s255 => zBd (m_X8_closeYear n (zSo s255 27)) fun x256 s257 => zLt (zMix 27 19 s255 s257) fun s258 => if x253 = x256 then (zLt (v4 + (5 : Int32)) fun x260 => rec x260 s258) else (zRt (0 : Int32) s258)
def m_L_law_c16 (rec : Int32 → zS → Option (Int32 × zS)) (n N : Nat) (xs : Nat → Int32) (v4 : Int32) (s : zS) : Option (Int32 × zS) :=
  zRd xs (v4 + (1 : Int32)) N fun x262 => zRd xs (v4 + (2 : Int32)) N fun x263 => zBd (m_L_addCredit n x262 x263 s) fun x264 s265 => zRd xs (v4 + (1 : Int32)) N fun x266 => zRd xs (v4 + (2 : Int32)) N fun x267 => zBd (m_X8_addCredit n x266 x267 (zSo s265 27)) fun x268 s269 => zLt (zMix 27 19 s265 s269) fun s270 => zBd (m_X8_thrown n (zSo s270 27)) fun x271 s272 => zLt (zMix 27 19 s270 s272) fun s273 => if x271 = x264 then (if x264 = 0 then (zRd (s273 46) (0 : Int32) 1 fun x277 => if (lg_cmp (Int32.toInt64 x277) (Int32.toInt64 x268)) = 0 then (zLt (v4 + (5 : Int32)) fun x279 => rec x279 s273) else (zRt (0 : Int32) s273)) else (zLt (v4 + (5 : Int32)) fun x276 => rec x276 s273)) else (zRt (0 : Int32) s273)
def m_L_law_c17 (rec : Int32 → zS → Option (Int32 × zS)) (n N : Nat) (xs : Nat → Int32) (v4 : Int32) (s : zS) : Option (Int32 × zS) :=
  zBd (m_L_dropCredit n s) fun x281 s282 => zBd (m_X8_dropCredit n (zSo s282 27)) fun x283 s284 => zLt (zMix 27 19 s282 s284) fun s285 => zBd (m_X8_thrown n (zSo s285 27)) fun x286 s287 => zLt (zMix 27 19 s285 s287) fun s288 => if x286 = x281 then (if x281 = 0 then (zRd (s288 46) (0 : Int32) 1 fun x292 => if (lg_cmp (Int32.toInt64 x292) (Int32.toInt64 x283)) = 0 then (zLt (v4 + (5 : Int32)) fun x294 => rec x294 s288) else (zRt (0 : Int32) s288)) else (zLt (v4 + (5 : Int32)) fun x291 => rec x291 s288)) else (zRt (0 : Int32) s288)
def m_L_law_c18 (rec : Int32 → zS → Option (Int32 × zS)) (n N : Nat) (xs : Nat → Int32) (v4 : Int32) (s : zS) : Option (Int32 × zS) :=
  zRd xs (v4 + (1 : Int32)) N fun x296 => zRd xs (v4 + (2 : Int32)) N fun x297 => zBd (m_L_creditAt n x296 x297 s) fun x298 s299 => zRd xs (v4 + (1 : Int32)) N fun x300 => zRd xs (v4 + (2 : Int32)) N fun x301 => zBd (m_X8_creditAt n x300 x301 (zSo s299 27)) fun x302 s303 => zLt (zMix 27 19 s299 s303) fun s304 => zBd (m_X8_thrown n (zSo s304 27)) fun x305 s306 => zLt (zMix 27 19 s304 s306) fun s307 => if x305 = x298 then (if x298 = 0 then (zRd (s307 46) (0 : Int32) 1 fun x311 => if (lg_cmp (Int32.toInt64 x311) (Int32.toInt64 x302)) = 0 then (zLt (v4 + (5 : Int32)) fun x313 => rec x313 s307) else (zRt (0 : Int32) s307)) else (zLt (v4 + (5 : Int32)) fun x310 => rec x310 s307)) else (zRt (0 : Int32) s307)
def m_L_law_c19 (rec : Int32 → zS → Option (Int32 × zS)) (n N : Nat) (xs : Nat → Int32) (v4 : Int32) (s : zS) : Option (Int32 × zS) :=
  zRd xs (v4 + (1 : Int32)) N fun x315 => zBd (m_L_afterCredits n x315 s) fun x316 s317 => zRd xs (v4 + (1 : Int32)) N fun x318 => zBd (m_X8_afterCredits n x318 (zSo s317 27)) fun x319 s320 => zLt (zMix 27 19 s317 s320) fun s321 => zBd (m_X8_thrown n (zSo s321 27)) fun x322 s323 => zLt (zMix 27 19 s321 s323) fun s324 => if x322 = x316 then (if x316 = 0 then (zRd (s324 46) (0 : Int32) 1 fun x328 => if (lg_cmp (Int32.toInt64 x328) (Int32.toInt64 x319)) = 0 then (zLt (v4 + (5 : Int32)) fun x330 => rec x330 s324) else (zRt (0 : Int32) s324)) else (zLt (v4 + (5 : Int32)) fun x327 => rec x327 s324)) else (zRt (0 : Int32) s324)
def m_L_law_c20 (rec : Int32 → zS → Option (Int32 × zS)) (n N : Nat) (xs : Nat → Int32) (v4 : Int32) (s : zS) : Option (Int32 × zS) :=
  zRd xs (v4 + (1 : Int32)) N fun x332 => zBd (m_L_bestSum n x332 s) fun x333 s334 => zRd xs (v4 + (1 : Int32)) N fun x335 => zBd (m_X8_bestSum n x335 (zSo s334 27)) fun x336 s337 => zLt (zMix 27 19 s334 s337) fun s338 => zBd (m_X8_thrown n (zSo s338 27)) fun x339 s340 => zLt (zMix 27 19 s338 s340) fun s341 => if x339 = x333 then (if x333 = 0 then (zRd (s341 46) (0 : Int32) 1 fun x345 => if (lg_cmp (Int32.toInt64 x345) (Int32.toInt64 x336)) = 0 then (zLt (v4 + (5 : Int32)) fun x347 => rec x347 s341) else (zRt (0 : Int32) s341)) else (zLt (v4 + (5 : Int32)) fun x344 => rec x344 s341)) else (zRt (0 : Int32) s341)
def m_L_law_j23 (n N : Nat) (xs : Nat → Int32) : Nat → Int32 → zS → Option (Int32 × zS)
  | 0, _, _ => none
  | f + 1, v4, s =>
    if ((Int32.ofNat N) - (5 : Int32)) < v4 then (zRt (1 : Int32) s) else (zRd xs v4 N fun x2 => zLt (x2 &&& (31 : Int32)) fun x3 => if x3 = (0 : Int32) then (m_L_law_c0 (m_L_law_j23 n N xs f) n N xs v4 s) else if x3 = (1 : Int32) then (m_L_law_c1 (m_L_law_j23 n N xs f) n N xs v4 s) else if x3 = (2 : Int32) then (m_L_law_c2 (m_L_law_j23 n N xs f) n N xs v4 s) else if x3 = (3 : Int32) then (m_L_law_c3 (m_L_law_j23 n N xs f) n N xs v4 s) else if x3 = (4 : Int32) then (m_L_law_c4 (m_L_law_j23 n N xs f) n N xs v4 s) else if x3 = (5 : Int32) then (m_L_law_c5 (m_L_law_j23 n N xs f) n N xs v4 s) else if x3 = (6 : Int32) then (m_L_law_c6 (m_L_law_j23 n N xs f) n N xs v4 s) else if x3 = (7 : Int32) then (m_L_law_c7 (m_L_law_j23 n N xs f) n N xs v4 s) else if x3 = (8 : Int32) then (m_L_law_c8 (m_L_law_j23 n N xs f) n N xs v4 s) else if x3 = (9 : Int32) then (m_L_law_c9 (m_L_law_j23 n N xs f) n N xs v4 s) else if x3 = (10 : Int32) then (m_L_law_c10 (m_L_law_j23 n N xs f) n N xs v4 s) else if x3 = (11 : Int32) then (m_L_law_c11 (m_L_law_j23 n N xs f) n N xs v4 s) else if x3 = (12 : Int32) then (m_L_law_c12 (m_L_law_j23 n N xs f) n N xs v4 s) else if x3 = (13 : Int32) then (m_L_law_c13 (m_L_law_j23 n N xs f) n N xs v4 s) else if x3 = (14 : Int32) then (m_L_law_c14 (m_L_law_j23 n N xs f) n N xs v4 s) else if x3 = (15 : Int32) then (m_L_law_c15 (m_L_law_j23 n N xs f) n N xs v4 s) else if x3 = (16 : Int32) then (m_L_law_c16 (m_L_law_j23 n N xs f) n N xs v4 s) else if x3 = (17 : Int32) then (m_L_law_c17 (m_L_law_j23 n N xs f) n N xs v4 s) else if x3 = (18 : Int32) then (m_L_law_c18 (m_L_law_j23 n N xs f) n N xs v4 s) else if x3 = (19 : Int32) then (m_L_law_c19 (m_L_law_j23 n N xs f) n N xs v4 s) else if x3 = (20 : Int32) then (m_L_law_c20 (m_L_law_j23 n N xs f) n N xs v4 s) else (zLt (v4 + (5 : Int32)) fun x348 => m_L_law_j23 n N xs f x348 s))
end
section
section PB
/-! ===== Int32 by its bits: bt x i ===== -/
def bt (x : Int32) (i : Nat) : Bool := x.toBitVec.getLsbD i
theorem b_ext {x y : Int32} (h : ∀ i, i < 32 → bt x i = bt y i) : x = y := Int32.toBitVec_inj.mp (BitVec.eq_of_getLsbD_eq (fun i hi => h i hi))
theorem b_or (x y : Int32) (i : Nat) : bt (x ||| y) i = (bt x i || bt y i) := by unfold bt; rw [Int32.toBitVec_or, BitVec.getLsbD_or]
theorem b_and (x y : Int32) (i : Nat) : bt (x &&& y) i = (bt x i && bt y i) := by unfold bt; rw [Int32.toBitVec_and, BitVec.getLsbD_and]
theorem b_xor (x y : Int32) (i : Nat) : bt (x ^^^ y) i = (bt x i ^^ bt y i) := by unfold bt; rw [Int32.toBitVec_xor, BitVec.getLsbD_xor]
theorem b_big {x : Int32} {i : Nat} (h : 32 ≤ i) : bt x i = false := BitVec.getLsbD_of_ge _ _ h
theorem b_255 (i : Nat) : bt 255 i = decide (i < 8) := by
  rcases Nat.lt_or_ge i 32 with h | h
  · exact (by decide +kernel : ∀ i, i < 32 → bt 255 i = decide (i < 8)) i h
  · rw [b_big h, decide_eq_false (by omega)]
theorem b_65535 (i : Nat) : bt 65535 i = decide (i < 16) := by
  rcases Nat.lt_or_ge i 32 with h | h
  · exact (by decide +kernel : ∀ i, i < 32 → bt 65535 i = decide (i < 16)) i h
  · rw [b_big h, decide_eq_false (by omega)]
theorem b_m1 : ∀ i, i < 32 → bt (-1) i = true := by decide +kernel
theorem b_0 (i : Nat) : bt 0 i = false := BitVec.getLsbD_zero
theorem s_l : ∀ n, n < 32 → ((nI n &&& 31).toBitVec.smod 32).toNat = n := by decide +kernel
theorem s_u : ∀ n, n < 32 → (((nI n).toUInt32 &&& Int32.toUInt32 31).toBitVec % 32).toNat = n := by decide +kernel
theorem b_shl (n : Nat) (hn : n < 32) (x : Int32) {i : Nat} (hi : i < 32) : bt (x <<< (nI n &&& 31)) i = (decide (n ≤ i) && bt x (i - n)) := by
  unfold bt
  rw [Int32.toBitVec_shiftLeft]
  show (x.toBitVec <<< ((nI n &&& 31).toBitVec.smod 32).toNat).getLsbD i = _
  rw [s_l n hn, BitVec.getLsbD_shiftLeft]
  rcases Nat.lt_or_ge i n with h | h
  · simp [h, Nat.not_le.mpr h]
  · simp [hi, h, Nat.not_lt.mpr h]
theorem b_ushr (n : Nat) (hn : n < 32) (x : Int32) (i : Nat) : bt ((x.toUInt32 >>> ((nI n).toUInt32 &&& Int32.toUInt32 31)).toInt32) i = bt x (n + i) := by
  show (x.toUInt32 >>> ((nI n).toUInt32 &&& Int32.toUInt32 31)).toBitVec.getLsbD i = x.toUInt32.toBitVec.getLsbD (n + i)
  rw [UInt32.toBitVec_shiftRight]
  show (x.toUInt32.toBitVec >>> (((nI n).toUInt32 &&& Int32.toUInt32 31).toBitVec % 32).toNat).getLsbD i = _
  rw [s_u n hn, BitVec.getLsbD_ushiftRight]
theorem b_sshr (n : Nat) (hn : n < 32) (x : Int32) {i : Nat} (hi : i < 32) : bt (x >>> (nI n &&& 31)) i = if n + i < 32 then bt x (n + i) else bt x 31 := by
  unfold bt
  rw [Int32.toBitVec_shiftRight]
  show (x.toBitVec.sshiftRight ((nI n &&& 31).toBitVec.smod 32).toNat).getLsbD i = _
  rw [s_l n hn, BitVec.getLsbD_sshiftRight, BitVec.msb_eq_getLsbD_last]
  simp [hi]
theorem b_shl8 (x : Int32) {i : Nat} (hi : i < 32) : bt (x <<< ((8 : Int32) &&& 31)) i = (decide (8 ≤ i) && bt x (i - 8)) := b_shl 8 (by omega) x hi
theorem b_shl16 (x : Int32) {i : Nat} (hi : i < 32) : bt (x <<< ((16 : Int32) &&& 31)) i = (decide (16 ≤ i) && bt x (i - 16)) := b_shl 16 (by omega) x hi
theorem b_shl24 (x : Int32) {i : Nat} (hi : i < 32) : bt (x <<< ((24 : Int32) &&& 31)) i = (decide (24 ≤ i) && bt x (i - 24)) := b_shl 24 (by omega) x hi
theorem b_sshr8 (x : Int32) {i : Nat} (hi : i < 32) : bt (x >>> ((8 : Int32) &&& 31)) i = if 8 + i < 32 then bt x (8 + i) else bt x 31 := b_sshr 8 (by omega) x hi
end PB
end
section
section PA
/-! how the models' words are worked out -/
variable {β : Type}
theorem zLt_e {α : Type} {x : α} {f : α → Option β} : zLt x f = f x := rfl
theorem zBd_e {v : Int32} {s : zS} {f : Int32 → zS → Option β} : zBd (some (v, s)) f = f v s := rfl
theorem zBd_r {v : Int32} {s : zS} {f : Int32 → zS → Option β} : zBd (zRt v s) f = f v s := rfl
theorem zBx_e {v : Int32} {s : zS} {f : Int32 → zS → Option ((Int32 ⊕ Nat) × zS)} : zBx (some (.inl v, s)) f = f v s := rfl
theorem zBx_t {k : Nat} {s : zS} {f : Int32 → zS → Option ((Int32 ⊕ Nat) × zS)} : zBx (some (.inr k, s)) f = some (.inr k, s) := rfl
theorem zGd_e {c : Prop} [Decidable c] {x : Option β} (h : c) : zGd c x = x := by unfold zGd; rw [if_pos h]
theorem nI_ok {j n : Nat} (h : j < n) (hn : n < 2147483648) : ¬ (nI j < 0 ∨ n ≤ (nI j).toNatClampNeg) := nI_in h hn
theorem nI_cl {j : Nat} (hj : j < 2147483648) : (nI j).toNatClampNeg = j := nI_clamp hj
theorem zRd_n {g : Nat → Int32} {j n : Nat} {f : Int32 → Option β} (h : j < n) (hn : n < 2147483648) : zRd g (nI j) n f = f (g j) := by
  unfold zRd
  rw [if_neg (nI_ok h hn), nI_cl (Nat.lt_trans h hn)]
theorem zWr_n {σ : zS} {k j n : Nat} {v : Int32} {f : zS → Option β} (h : j < n) (hn : n < 2147483648) : zWr σ k (nI j) n v f = f (zU σ k j v) := by
  unfold zWr
  rw [if_neg (nI_ok h hn), nI_cl (Nat.lt_trans h hn)]
theorem zU_g (σ : zS) (k j : Nat) (v : Int32) (a c : Nat) : zU σ k j v a c = if a = k ∧ c = j then v else σ a c := by
  unfold zU upd
  by_cases h1 : a = k
  · by_cases h2 : c = j <;> simp [h1, h2]
  · simp [h1]
theorem zU_ne {σ : zS} {k j : Nat} {v : Int32} {a : Nat} (h : a ≠ k) : zU σ k j v a = σ a := by unfold zU; rw [if_neg h]
theorem zU_eq {σ : zS} {k j : Nat} {v : Int32} : zU σ k j v k j = v := by rw [zU_g, if_pos ⟨rfl, rfl⟩]
theorem zU_nj {σ : zS} {k j : Nat} {v : Int32} {c : Nat} (h : c ≠ j) : zU σ k j v k c = σ k c := by rw [zU_g, if_neg (fun q => h q.2)]
/-- a read that looks first: 0 where there is no such place -/
def zAt (s : zS) (k N : Nat) (v : Int32) : Int32 := if v < 0 then 0 else if nI N ≤ v then 0 else s k v.toNatClampNeg
theorem vp_of {v : Int32} {N : Nat} (hN : N < 2147483648) (h1 : ¬ v < 0) (h2 : ¬ nI N ≤ v) : ∃ j, j < N ∧ v = nI j := by
  rcases pk_ix v hN with h | h | ⟨j, h, e⟩
  · exact absurd h h1
  · exact absurd h h2
  · exact ⟨j, h, e⟩
theorem p_at {n k N : Nat} (hN : N < 2147483648) (v : Int32) (s : zS) : m_X7_at n k N v s = some (zAt s k N v, s) := by
  unfold m_X7_at zAt
  by_cases h1 : v < 0
  · rw [if_pos h1, if_pos h1]; rfl
  · rw [if_neg h1, if_neg h1]
    by_cases h2 : nI N ≤ v
    · rw [if_pos (show Int32.ofNat N ≤ v from h2), if_pos h2]; rfl
    · rw [if_neg (show ¬ Int32.ofNat N ≤ v from h2), if_neg h2]
      obtain ⟨j, hj, rfl⟩ := vp_of hN h1 h2
      rw [zRd_n hj hN, nI_cl (Nat.lt_trans hj hN)]; rfl
theorem zAt_n {s : zS} {k N j : Nat} (h : j < N) (hN : N < 2147483648) : zAt s k N (nI j) = s k j := by
  unfold zAt
  rw [if_neg (nI_pos (Nat.lt_trans h hN)), if_neg (nI_ge h hN), nI_cl (Nat.lt_trans h hN)]
theorem zAt_o {s : zS} {k N j : Nat} (h : N ≤ j) (hj : j < 2147483648) : zAt s k N (nI j) = 0 := by
  unfold zAt
  rw [if_neg (nI_pos hj), if_pos (nI_le h hj)]
theorem p_put {n k N j : Nat} {v : Int32} {s : zS} (h : j < N) (hN : N < 2147483648) : m_X7_put n k N (nI j) v s = some (0, zU s k j v) := by
  unfold m_X7_put
  rw [if_neg (nI_pos (Nat.lt_trans h hN)), if_neg (show ¬ Int32.ofNat N ≤ nI j from nI_ge h hN), zWr_n h hN]; rfl
/-- a loop that counts up to N -/
theorem for_up {R σ : Type} (L : Nat → Nat → σ → Option R) (I : Nat → σ → Prop) (N : Nat) (h1 : ∀ f i s, i < N → I i s → ∃ s', I (i + 1) s' ∧ L (f + 1) i s = L f (i + 1) s') : ∀ (d f i : Nat) (s : σ), i + d = N → d ≤ f → I i s → ∃ s' f', f' + d = f ∧ I N s' ∧ L f i s = L f' N s' := by
  intro d
  induction d with
  | zero => intro f i s hd hf hI; exact ⟨s, f, by omega, by rw [← hd]; exact hI, by rw [← hd]; rfl⟩
  | succ d ih =>
    intro f i s hd hf hI
    obtain ⟨f, rfl⟩ : ∃ g, f = g + 1 := ⟨f - 1, by omega⟩
    obtain ⟨s1, hI1, e1⟩ := h1 f i s (by omega) hI
    obtain ⟨s', f', hf', hI', e'⟩ := ih f (i + 1) s1 (by omega) (by omega) hI1
    exact ⟨s', f', by omega, hI', e1.trans e'⟩
theorem nI_s (i : Nat) : nI i + (1 : Int32) = nI (i + 1) := nI_1 i
theorem le_n {a b : Nat} (ha : a < 2147483648) (hb : b < 2147483648) : (nI a ≤ nI b) ↔ a ≤ b := nI_leI ha hb
theorem lt_n {a b : Nat} (ha : a < 2147483648) (hb : b < 2147483648) : (nI a < nI b) ↔ a < b := nI_ltI ha hb
theorem eq_n {a b : Nat} (ha : a < 2147483648) (hb : b < 2147483648) : (nI a = nI b) ↔ a = b := nI_eq ha hb
/-- small helpers of the class -/
theorem p_isWithin (n : Nat) (a b c : Int32) (s : zS) : m_X7_isWithin n a b c s = some (if b ≤ a ∧ a ≤ c then 1 else 0, s) := by
  unfold m_X7_isWithin
  by_cases h1 : a < b
  · have h3 : ¬ b ≤ a := Int32.not_le.mpr h1
    simp [h1, h3, zRt]
  · have h3 : b ≤ a := Int32.not_lt.mp h1
    by_cases h2 : c < a
    · have h4 : ¬ a ≤ c := Int32.not_le.mpr h2
      simp [h1, h2, h4, zRt]
    · have h4 : a ≤ c := Int32.not_lt.mp h2
      simp [h1, h2, h3, h4, zRt]
end PA
end
section
section PC
/-! paths through nodes below t, and the closure -/
def zPath (u : Nat → Nat → Bool) : Nat → Nat → Nat → Bool
  | 0, i, j => u i j
  | t + 1, i, j => zPath u t i j || (zPath u t i t && zPath u t t j)
theorem zPath_s {u : Nat → Nat → Bool} {t i j : Nat} : zPath u (t + 1) i j = (zPath u t i j || (zPath u t i t && zPath u t t j)) := rfl
theorem zPath_up {u : Nat → Nat → Bool} {t i j : Nat} (h : zPath u t i j = true) : zPath u (t + 1) i j = true := by
  rw [zPath_s, h]; rfl
theorem zPath_le {u : Nat → Nat → Bool} {a i j : Nat} (d : Nat) (h : zPath u a i j = true) : zPath u (a + d) i j = true := by
  induction d with
  | zero => exact h
  | succ d ih => exact zPath_up ih
theorem zPath_row {u : Nat → Nat → Bool} {t j : Nat} : zPath u (t + 1) t j = zPath u t t j := by
  rw [zPath_s]
  cases zPath u t t j <;> simp
theorem zPath_col {u : Nat → Nat → Bool} {t i : Nat} : zPath u (t + 1) i t = zPath u t i t := by
  rw [zPath_s]
  cases zPath u t i t <;> simp
theorem zPath_mid {u : Nat → Nat → Bool} : ∀ {t i m j : Nat}, m < t → zPath u t i m = true → zPath u t m j = true → zPath u t i j = true := by
  intro t
  induction t with
  | zero => intro i m j h; exact absurd h (Nat.not_lt_zero m)
  | succ t ih =>
    intro i m j hm h1 h2
    rw [zPath_s] at h1 h2 ⊢
    rcases Nat.lt_or_ge m t with hlt | hge
    · have k1 : ∀ {a b : Nat}, zPath u t a m = true → zPath u t m b = true → zPath u t a b = true := fun x y => ih hlt x y
      rcases Bool.or_eq_true_iff.mp h1 with a | a <;> rcases Bool.or_eq_true_iff.mp h2 with b | b
      · rw [k1 a b]; rfl
      · obtain ⟨b1, b2⟩ := Bool.and_eq_true_iff.mp b
        rw [k1 a b1, b2]; simp
      · obtain ⟨a1, a2⟩ := Bool.and_eq_true_iff.mp a
        rw [a1, k1 a2 b]; simp
      · obtain ⟨a1, a2⟩ := Bool.and_eq_true_iff.mp a
        obtain ⟨b1, b2⟩ := Bool.and_eq_true_iff.mp b
        rw [a1, b2]; simp
    · have hmt : m = t := by omega
      subst hmt
      have a : zPath u m i m = true := by
        rcases Bool.or_eq_true_iff.mp h1 with a | a
        · exact a
        · exact (Bool.and_eq_true_iff.mp a).1
      have b : zPath u m m j = true := by
        rcases Bool.or_eq_true_iff.mp h2 with b | b
        · exact b
        · exact (Bool.and_eq_true_iff.mp b).2
      rw [a, b]; simp
def zTC (u : Nat → Nat → Bool) (i j : Nat) : Bool := zPath u 16 i j
theorem zTC_tr {u : Nat → Nat → Bool} {i m j : Nat} (hm : m < 16) (h1 : zTC u i m = true) (h2 : zTC u m j = true) : zTC u i j = true := zPath_mid hm h1 h2
theorem zTC_of {u : Nat → Nat → Bool} {i j : Nat} (h : u i j = true) : zTC u i j = true := by
  have := zPath_le (u := u) (a := 0) 16 h
  exact this
theorem zPath_min {u : Nat → Nat → Bool} (Rl : Nat → Nat → Prop) (hu : ∀ i j, u i j = true → Rl i j) (ht : ∀ i m j, m < 16 → Rl i m → Rl m j → Rl i j) : ∀ t, t ≤ 16 → ∀ i j, zPath u t i j = true → Rl i j := by
  intro t
  induction t with
  | zero => intro _ i j h; exact hu i j h
  | succ t ih =>
    intro hle i j h
    rw [zPath_s] at h
    rcases Bool.or_eq_true_iff.mp h with a | a
    · exact ih (by omega) i j a
    · obtain ⟨a1, a2⟩ := Bool.and_eq_true_iff.mp a
      exact ht i t j (by omega) (ih (by omega) i t a1) (ih (by omega) t j a2)
theorem zTC_min {u : Nat → Nat → Bool} (Rl : Nat → Nat → Prop) (hu : ∀ i j, u i j = true → Rl i j) (ht : ∀ i m j, m < 16 → Rl i m → Rl m j → Rl i j) {i j : Nat} (h : zTC u i j = true) : Rl i j := zPath_min Rl hu ht 16 (Nat.le_refl _) i j h
/-- the last step, the first step -/
theorem zTC_last {u : Nat → Nat → Bool} {i j : Nat} (h : zTC u i j = true) : u i j = true ∨ ∃ m, m < 16 ∧ zTC u i m = true ∧ u m j = true := by
  refine (zTC_min (fun i j => zTC u i j = true ∧ (u i j = true ∨ ∃ m, m < 16 ∧ zTC u i m = true ∧ u m j = true)) (fun i j h => ⟨zTC_of h, Or.inl h⟩) (fun i m j hm a b => ⟨zTC_tr hm a.1 b.1, Or.inr ?_⟩) h).2
  rcases b.2 with b | ⟨k, hk, b1, b2⟩
  · exact ⟨m, hm, a.1, b⟩
  · exact ⟨k, hk, zTC_tr hm a.1 b1, b2⟩
theorem zTC_first {u : Nat → Nat → Bool} {i j : Nat} (h : zTC u i j = true) : u i j = true ∨ ∃ m, m < 16 ∧ u i m = true ∧ zTC u m j = true := by
  refine (zTC_min (fun i j => zTC u i j = true ∧ (u i j = true ∨ ∃ m, m < 16 ∧ u i m = true ∧ zTC u m j = true)) (fun i j h => ⟨zTC_of h, Or.inl h⟩) (fun i m j hm a b => ⟨zTC_tr hm a.1 b.1, Or.inr ?_⟩) h).2
  rcases a.2 with a | ⟨k, hk, a1, a2⟩
  · exact ⟨m, hm, a, b.1⟩
  · exact ⟨k, hk, a1, zTC_tr hm a2 b.1⟩
theorem zTC_sub {u v : Nat → Nat → Bool} (h : ∀ i j, u i j = true → v i j = true) {i j : Nat} (hp : zTC u i j = true) : zTC v i j = true :=
  zTC_min (fun i j => zTC v i j = true) (fun i j q => zTC_of (h i j q)) (fun _ _ _ hm a b => zTC_tr hm a b) hp
/-- a set each of whose nodes has a successor in it holds a node that reaches itself -/
theorem zTC_cyc {u : Nat → Nat → Bool} (S : Nat → Prop) (hS : ∀ i, S i → i < 16 ∧ ∃ j, S j ∧ u i j = true) {i0 : Nat} (h0 : S i0) : ∃ i, S i ∧ zTC u i i = true := by
  -- how many nodes are reached, counted below n
  have cnt : ∃ c : Nat → Nat, ∀ i j, i < 16 → j < 16 → zTC u i j = true → ¬ zTC u j j = true → c j < c i := by
    refine ⟨fun i => ((List.range 16).filter (fun k => zTC u i k)).length, fun i j hi hj hij hjj => ?_⟩
    have hsub : ∀ k, k ∈ (List.range 16).filter (fun k => zTC u j k) → k ∈ ((List.range 16).filter (fun k => zTC u i k)).filter (fun k => decide (k ≠ j)) := by
      intro k hk
      obtain ⟨hk1, hk2⟩ := List.mem_filter.mp hk
      refine List.mem_filter.mpr ⟨List.mem_filter.mpr ⟨hk1, zTC_tr hj hij hk2⟩, decide_eq_true ?_⟩
      intro e
      subst e
      exact hjj hk2
    have nd : ((List.range 16).filter (fun k => zTC u j k)).Nodup := List.nodup_range.filter _
    have l1 : ((List.range 16).filter (fun k => zTC u j k)).length ≤ (((List.range 16).filter (fun k => zTC u i k)).filter (fun k => decide (k ≠ j))).length := nd.length_le_of_subset hsub
    have l2 : (((List.range 16).filter (fun k => zTC u i k)).filter (fun k => decide (k ≠ j))).length < ((List.range 16).filter (fun k => zTC u i k)).length := by
      refine List.length_filter_lt_length_iff_exists.mpr ⟨j, List.mem_filter.mpr ⟨List.mem_range.mpr hj, hij⟩, by simp⟩
    exact Nat.lt_of_le_of_lt l1 l2
  obtain ⟨c, hc⟩ := cnt
  -- descend
  have step : ∀ n i, S i → c i < n → ∃ i, S i ∧ zTC u i i = true := by
    intro n
    induction n with
    | zero => intro i _ h; exact absurd h (Nat.not_lt_zero _)
    | succ n ih =>
      intro i hi hn
      obtain ⟨hi16, j, hj, hij⟩ := hS i hi
      by_cases hjj : zTC u j j = true
      · exact ⟨j, hj, hjj⟩
      · have := hc i j hi16 (hS j hj).1 (zTC_of hij) hjj
        exact ih j hj (by omega)
  exact step (c i0 + 1) i0 h0 (Nat.lt_succ_self _)
end PC
end
section
section PR
/-! what the class's small methods answer -/
theorem p_kind (n : Nat) (v : Int32) (s : zS) : m_X5_kind n v s = some (zAt s 2 16 v, s) := by unfold m_X5_kind; rw [p_at (by decide)]; rfl
theorem p_first (n : Nat) (v : Int32) (s : zS) : m_X5_first n v s = some (zAt s 3 16 v, s) := by unfold m_X5_first; rw [p_at (by decide)]; rfl
theorem p_second (n : Nat) (v : Int32) (s : zS) : m_X5_second n v s = some (zAt s 4 16 v, s) := by unfold m_X5_second; rw [p_at (by decide)]; rfl
theorem p_given (n : Nat) (v : Int32) (s : zS) : m_X5_given n v s = some (zAt s 5 16 v, s) := by unfold m_X5_given; rw [p_at (by decide)]; rfl
theorem p_reach (n : Nat) (v : Int32) (s : zS) : m_X4_reach n v s = some (zAt s 7 16 v, s) := by unfold m_X4_reach; rw [p_at (by decide)]; rfl
theorem p_groupOf (n : Nat) (v : Int32) (s : zS) : m_X4_groupOf n v s = some (zAt s 8 16 v, s) := by unfold m_X4_groupOf; rw [p_at (by decide)]; rfl
theorem p_lineAt (n : Nat) (v : Int32) (s : zS) : m_X4_lineAt n v s = some (zAt s 9 16 v, s) := by unfold m_X4_lineAt; rw [p_at (by decide)]; rfl
theorem p_of (n : Nat) (v : Int32) (s : zS) : m_X6_of n v s = some (zAt s 22 16 v, s) := by unfold m_X6_of; rw [p_at (by decide)]; rfl
theorem p_ofb (n : Nat) (v : Int32) (s : zS) : m_X6b_of n v s = some (zAt s 24 16 v, s) := by unfold m_X6b_of; rw [p_at (by decide)]; rfl
theorem p_leftAt (n : Nat) (v : Int32) (s : zS) : m_X0_leftAt n v s = some (zAt s 14 8 v, s) := by unfold m_X0_leftAt; rw [p_at (by decide)]; rfl
theorem p_bestAt (n : Nat) (v : Int32) (s : zS) : m_X2_bestAt n v s = some (zAt s 20 5 v, s) := by unfold m_X2_bestAt; rw [p_at (by decide)]; rfl
def zBit (v : Int32) : Int32 := (1 : Int32) <<< (v &&& 31)
theorem p_bit (n : Nat) (v : Int32) (s : zS) : m_X7_bit n v s = some (zBit v, s) := rfl
def zHas (a v : Int32) : Int32 := if (a &&& zBit v) = 0 then 0 else 1
theorem p_has (n : Nat) (a v : Int32) (s : zS) : m_X7_has n a v s = some (zHas a v, s) := by
  unfold m_X7_has zHas
  rw [p_bit, zBd_e]
  split <;> rfl
theorem bt_bit {l i : Nat} (hl : l < 32) (hi : i < 32) : bt (zBit (nI l)) i = decide (i = l) := by
  unfold zBit
  rw [b_shl l hl 1 hi]
  have h1 : ∀ k, k < 32 → bt 1 k = decide (k = 0) := by decide +kernel
  rw [h1 (i - l) (by omega)]
  by_cases h : i = l
  · simp [h]
  · by_cases h2 : l ≤ i
    · have : ¬ i - l = 0 := by omega
      simp [h, h2, this]
    · simp [h, h2]
theorem and_bit {a : Int32} {l : Nat} (hl : l < 32) : (a &&& zBit (nI l)) = 0 ↔ bt a l = false := by
  constructor
  · intro h
    have h1 : bt (a &&& zBit (nI l)) l = bt 0 l := by rw [h]
    rw [b_and, bt_bit hl hl, b_0] at h1
    simpa using h1
  · intro h
    apply b_ext
    intro i hi
    rw [b_and, bt_bit hl hi, b_0]
    by_cases e : i = l
    · rw [e, h]; rfl
    · simp [e]
theorem has_n {a : Int32} {l : Nat} (hl : l < 32) : zHas a (nI l) = if bt a l = true then 1 else 0 := by
  unfold zHas
  by_cases h : bt a l = true
  · rw [if_pos h, if_neg (fun q => by rw [(and_bit hl).mp q] at h; cases h)]
  · rw [if_neg h, if_pos ((and_bit hl).mpr (by simpa using h))]
def zTwo (k : Int32) : Bool := k == 1 || k == 2 || k == 4 || k == 5 || k == 8
theorem p_takesFirst (n : Nat) (k : Int32) (s : zS) : m_X7_takesFirst n k s = some (if k = 0 then 0 else 1, s) := by
  unfold m_X7_takesFirst; split <;> rfl
theorem p_takesSecond (n : Nat) (k : Int32) (s : zS) : m_X7_takesSecond n k s = some (if zTwo k then 1 else 0, s) := by
  unfold m_X7_takesSecond m_X7_takesSecond_j26 zTwo
  by_cases h1 : k = 1
  · simp [h1, zRt]
  · by_cases h2 : k = 2
    · simp [h2, zRt]
    · by_cases h4 : k = 4
      · simp [h4, zRt]
      · by_cases h5 : k = 5
        · simp [h5, zRt]
        · by_cases h8 : k = 8
          · simp [h8, zRt]
          · simp [h1, h2, h4, h5, h8, zRt]
/-- the lines that a line uses; without its second one, if it is told -/
def zUse (k f g : Int32) (wo : Bool) : Int32 := (if k = 0 then 0 else zBit f) ||| (if zTwo k && !wo then zBit g else 0)
theorem or_0 (x : Int32) : x ||| 0 = x := by
  apply b_ext; intro i hi; rw [b_or, b_0]; simp
theorem zero_or (x : Int32) : 0 ||| x = x := by
  apply b_ext; intro i hi; rw [b_or, b_0]; simp
theorem p_uses (n : Nat) (v : Int32) (s : zS) : m_X5_uses n v s = some (zUse (zAt s 2 16 v) (zAt s 3 16 v) (zAt s 4 16 v) false, s) := by
  unfold m_X5_uses m_X5_uses_j25 zUse
  simp only [p_kind, p_first, p_second, p_takesFirst, p_takesSecond, p_bit, zBd_e]
  by_cases h1 : zAt s 2 16 v = 0 <;> by_cases h2 : zTwo (zAt s 2 16 v) = true <;> simp [h1, h2, zRt, or_0]
  · rw [h1] at h2; exact absurd h2 (by decide)
  · rw [show zTwo 0 = false by decide]; simp
theorem zn_id (x : Int32) (h : x = 0 ∨ x = 1) : vp_nar .boolean x = x := by
  rcases h with h | h <;> rw [h] <;> decide
theorem p_isCircular (n : Nat) (v : Int32) (s : zS) : m_X4_isCircular n v s = some (zHas (zAt s 7 16 v) v, s) := by
  unfold m_X4_isCircular
  simp only [p_reach, p_has, zBd_e]
  rw [zGd_e (zn_id _ (by unfold zHas; split <;> simp))]; rfl
theorem p_isReady (n : Nat) (v : Int32) (s : zS) : m_X4_isReady n v s = some (if zHas (s 6 4) v = 0 ∧ ((zAt s 7 16 v &&& (zAt s 8 16 v ^^^ (-1 : Int32))) &&& ((s 6 4) ^^^ (-1 : Int32))) = 0 then 1 else 0, s) := by
  unfold m_X4_isReady
  simp only [p_reach, p_groupOf, p_has, zBd_e]
  by_cases h1 : zHas (s 6 4) v = 0
  · by_cases h2 : ((zAt s 7 16 v &&& (zAt s 8 16 v ^^^ (-1 : Int32))) &&& ((s 6 4) ^^^ (-1 : Int32))) = 0
    · rw [if_pos h1, if_pos h2, if_pos ⟨h1, h2⟩]; rfl
    · rw [if_pos h1, if_neg h2, if_neg (fun q => h2 q.2)]; rfl
  · rw [if_neg h1, if_neg (fun q => h1 q.1)]; rfl
end PR
end
section
section PF
/-! the class finds what reaches what -/
theorem n16 {i : Nat} (h : i < 16) : ¬ (16 : Int32) ≤ nI i := nI_ge (b := 16) h (by decide)
theorem n16e : (16 : Int32) ≤ nI 16 := nI_le (a := 16) (Nat.le_refl _) (by decide)
theorem a16 {s : zS} {k i : Nat} (h : i < 16) : zAt s k 16 (nI i) = s k i := zAt_n h (by decide)
def zUs (s : zS) (i : Nat) : Int32 := zUse (s 2 i) (s 3 i) (s 4 i) false
def zu (s : zS) (i j : Nat) : Bool := bt (zUs s i) j
theorem zUs_c {s s' : zS} (h : ∀ k, k ≠ 7 → s' k = s k) (i : Nat) : zUs s' i = zUs s i := by
  unfold zUs; rw [h 2 (by decide), h 3 (by decide), h 4 (by decide)]
theorem p_uses_n {n i : Nat} (hi : i < 16) (s : zS) : m_X5_uses n (nI i) s = some (zUs s i, s) := by
  rw [p_uses, a16 hi, a16 hi, a16 hi]; rfl
theorem p_findReach {n : Nat} (hn : 100 ≤ n) (s : zS) : ∃ s', m_X4_findReach n s = some (0, s') ∧ (∀ k, k ≠ 7 → s' k = s k) ∧ ∀ i, i < 16 → ∀ j, j < 32 → bt (s' 7 i) j = zTC (zu s) i j := by
  obtain ⟨s1, f1, hf1, ⟨g1, g2⟩, e1⟩ := for_up (fun f i s' => m_X4_findReach_j2 n f (nI i) s') (fun i s' => (∀ k, k ≠ 7 → s' k = s k) ∧ ∀ a, a < i → s' 7 a = zUs s a) 16 (by
    intro f i s' hi ⟨h1, h2⟩
    refine ⟨zU s' 7 i (zUs s i), ⟨fun k hk => (zU_ne hk).trans (h1 k hk), fun a ha => ?_⟩, ?_⟩
    · by_cases e : a = i
      · rw [e, zU_eq]
      · rw [zU_nj e]; exact h2 a (by omega)
    · show m_X4_findReach_j2 n (f + 1) (nI i) s' = m_X4_findReach_j2 n f (nI (i + 1)) _
      rw [m_X4_findReach_j2, if_neg (n16 hi), p_uses_n hi, zBd_e, p_put hi (by decide), zBd_e, zLt_e, nI_s, zUs_c h1]) 16 n 0 s rfl (by omega) ⟨fun _ _ => rfl, fun a h => absurd h (Nat.not_lt_zero a)⟩
  -- the closure, middle by middle
  obtain ⟨s2, f2, hf2, ⟨k1, k2⟩, e2⟩ := for_up (fun f m s' => m_X4_findReach_j29 n f (nI m) s') (fun m s' => (∀ k, k ≠ 7 → s' k = s k) ∧ ∀ i, i < 16 → ∀ j, j < 32 → bt (s' 7 i) j = zPath (zu s) m i j) 16 (by
    intro f m s' hm ⟨h1, h2⟩
    obtain ⟨s3, f3, hf3, ⟨r1, r2⟩, e3⟩ := for_up (fun f9 i s9 => m_X4_findReach_j37 (m_X4_findReach_j29 n f) n f9 (nI m) (nI i) s9) (fun i s9 => (∀ k, k ≠ 7 → s9 k = s k) ∧ ∀ a, a < 16 → ∀ j, j < 32 → bt (s9 7 a) j = zPath (zu s) (if a < i then m + 1 else m) a j) 16 (by
      intro f9 i s9 hi ⟨q1, q2⟩
      have row : ∀ j, j < 32 → bt (s9 7 m) j = zPath (zu s) m m j := by
        intro j hj
        rw [q2 m hm j hj]
        split
        · exact zPath_row
        · rfl
      have col : bt (s9 7 i) m = zPath (zu s) m i m := by
        rw [q2 i hi m (by omega), if_neg (Nat.lt_irrefl i)]
      by_cases hb : bt (s9 7 i) m = true
      · refine ⟨zU s9 7 i (s9 7 i ||| s9 7 m), ⟨fun k hk => (zU_ne hk).trans (q1 k hk), fun a ha j hj => ?_⟩, ?_⟩
        · by_cases e : a = i
          · subst e
            rw [zU_eq, b_or, row j hj, q2 a ha j hj, if_neg (Nat.lt_irrefl a), if_pos (Nat.lt_succ_self a), zPath_s, ← col, hb]
            simp
          · rw [zU_nj e, q2 a ha j hj]
            have : (a < i + 1) ↔ (a < i) := by omega
            simp only [this]
        · show m_X4_findReach_j37 _ n (f9 + 1) (nI m) (nI i) s9 = m_X4_findReach_j37 _ n f9 (nI m) (nI (i + 1)) _
          rw [m_X4_findReach_j37, if_neg (n16 hi), p_reach, zBd_e, a16 hi, p_has, zBd_e, has_n (by omega), if_pos hb, if_neg (by decide), p_reach, zBd_e, a16 hi, p_reach, zBd_e, a16 hm, p_put hi (by decide), zBd_e, zLt_e, nI_s]
      · refine ⟨s9, ⟨q1, fun a ha j hj => ?_⟩, ?_⟩
        · by_cases e : a = i
          · subst e
            rw [q2 a ha j hj, if_neg (Nat.lt_irrefl a), if_pos (Nat.lt_succ_self a), zPath_s, ← col]
            rw [show bt (s9 7 a) m = false by simpa using hb]
            simp
          · rw [q2 a ha j hj]
            have : (a < i + 1) ↔ (a < i) := by omega
            simp only [this]
        · show m_X4_findReach_j37 _ n (f9 + 1) (nI m) (nI i) s9 = m_X4_findReach_j37 _ n f9 (nI m) (nI (i + 1)) _
          rw [m_X4_findReach_j37, if_neg (n16 hi), p_reach, zBd_e, a16 hi, p_has, zBd_e, has_n (by omega), if_neg hb, if_pos rfl, zLt_e, nI_s]) 16 n 0 s' rfl (by omega) ⟨h1, fun a ha j hj => by rw [if_neg (Nat.not_lt_zero a)]; exact h2 a ha j hj⟩
    obtain ⟨f3, rfl⟩ : ∃ g, f3 = g + 1 := ⟨f3 - 1, by omega⟩
    refine ⟨s3, ⟨r1, fun i hi j hj => by rw [r2 i hi j hj, if_pos hi]⟩, ?_⟩
    show m_X4_findReach_j29 n (f + 1) (nI m) s' = m_X4_findReach_j29 n f (nI (m + 1)) s3
    rw [m_X4_findReach_j29, if_neg (n16 hm)]
    refine (show _ = _ from e3).trans ?_
    show m_X4_findReach_j37 _ n (f3 + 1) (nI m) (nI 16) s3 = _
    rw [m_X4_findReach_j37, if_pos n16e, zLt_e, nI_s]) 16 n 0 s1 rfl (by omega) ⟨g1, fun i hi j hj => by rw [g2 i hi]; rfl⟩
  obtain ⟨f1, rfl⟩ : ∃ g, f1 = g + 1 := ⟨f1 - 1, by omega⟩
  obtain ⟨f2, rfl⟩ : ∃ g, f2 = g + 1 := ⟨f2 - 1, by omega⟩
  refine ⟨s2, ?_, k1, k2⟩
  unfold m_X4_findReach
  refine (show _ = _ from e1).trans ?_
  show m_X4_findReach_j2 n (f1 + 1) (nI 16) s1 = _
  rw [m_X4_findReach_j2, if_pos n16e]
  refine (show _ = _ from e2).trans ?_
  show m_X4_findReach_j29 n (f2 + 1) (nI 16) s2 = _
  rw [m_X4_findReach_j29, if_pos n16e]; rfl
end PF
end
section
section PN
/-! the reference lays what depends on what -/
theorem zif {α : Type} {p q : Prop} [Decidable p] [Decidable q] (h : p ↔ q) {a b : α} : (if p then a else b) = if q then a else b := by
  by_cases hp : p
  · rw [if_pos hp, if_pos (h.mp hp)]
  · rw [if_neg hp, if_neg (fun x => hp (h.mpr x))]
theorem and_1 (y : Int32) : y &&& 1 = if bt y 0 = true then 1 else 0 := by
  apply b_ext
  intro i hi
  have h1 : ∀ k, k < 32 → bt 1 k = decide (k = 0) := by decide +kernel
  rw [b_and, h1 i hi]
  by_cases h0 : i = 0
  · subst h0
    by_cases h : bt y 0 = true
    · rw [if_pos h, h]; decide
    · rw [if_neg h]
      rw [show bt y 0 = false by simpa using h]; decide
  · by_cases h : bt y 0 = true
    · rw [if_pos h, h1 i hi]; simp [h0]
    · rw [if_neg h, b_0]; simp [h0]
theorem tb_n {x : Int32} {l : Nat} (hl : l < 32) : ((x >>> (nI l &&& 31)) &&& (1 : Int32)) = if bt x l = true then 1 else 0 := by
  have e : bt (x >>> (nI l &&& 31)) 0 = bt x l := by
    rw [b_sshr l hl x (by decide), if_pos (show l + 0 < 32 by omega), Nat.add_zero]
  rw [and_1, e]
theorem tb_1 {x : Int32} {l : Nat} (hl : l < 32) : (((x >>> (nI l &&& 31)) &&& (1 : Int32)) = 1) ↔ bt x l = true := by
  rw [tb_n hl]; split
  · simp [*]
  · rename_i h; simp only [h]; decide
theorem tb_0 {x : Int32} {l : Nat} (hl : l < 32) : (((x >>> (nI l &&& 31)) &&& (1 : Int32)) = 0) ↔ ¬ bt x l = true := by
  rw [tb_n hl]; split
  · rename_i h; simp only [h]; decide
  · rename_i h; simp [h]
theorem q_usesFirst {n i : Nat} (hi : i < 16) (s : zS) : m_X8_usesFirst n (nI i) s = some (if s 1 i = 0 then 0 else 1, s) := by
  unfold m_X8_usesFirst
  rw [zRd_n hi (by decide)]
  split <;> rfl
theorem q_usesSecond {n i : Nat} (hi : i < 16) (s : zS) : m_X8_usesSecond n (nI i) s = some (if zTwo (s 1 i) then 1 else 0, s) := by
  unfold m_X8_usesSecond m_X8_usesSecond_j33 zTwo
  rw [zRd_n hi (by decide)]
  generalize s 1 i = k
  by_cases h1 : k = 1
  · simp [h1, zRt]
  · by_cases h2 : k = 2
    · simp [h2, zRt]
    · by_cases h4 : k = 4
      · simp [h4, zRt]
      · by_cases h5 : k = 5
        · simp [h5, zRt]
        · by_cases h8 : k = 8
          · simp [h8, zRt]
          · simp [h1, h2, h4, h5, h8, zRt]
def zwU (s : zS) (wo : Int32) (i : Nat) : Int32 := zUse (s 1 i) (s 2 i) (s 3 i) (decide (nI i = wo))
def zw (s : zS) (wo : Int32) (i j : Nat) : Bool := bt (zwU s wo i) j
theorem q_needs {n : Nat} (hn : 100 ≤ n) (wo : Int32) (s : zS) : ∃ s', m_X8_laysNeeds n wo s = some (0, s') ∧ (∀ k, k ≠ 13 → s' k = s k) ∧ ∀ i, i < 16 → ∀ j, j < 32 → bt (s' 13 i) j = zTC (zw s wo) i j := by
  obtain ⟨s1, f1, hf1, ⟨g1, g2⟩, e1⟩ := for_up (fun f i s' => m_X8_laysNeeds_j2 n f wo (nI i) s') (fun i s' => (∀ k, k ≠ 13 → s' k = s k) ∧ ∀ a, a < i → s' 13 a = zwU s wo a) 16 (by
    intro f i s' hi ⟨h1, h2⟩
    have c1 : s' 1 i = s 1 i := by rw [h1 1 (by decide)]
    have c2 : s' 2 i = s 2 i := by rw [h1 2 (by decide)]
    have c3 : s' 3 i = s 3 i := by rw [h1 3 (by decide)]
    -- first the one bit, then the other
    have second : ∀ (t2 : Int32), m_X8_laysNeeds_j33 (m_X8_laysNeeds_j2 n f) n wo (nI i) (nI i) t2 s' = m_X8_laysNeeds_j2 n f wo (nI (i + 1)) (zU (zU s' 13 i t2) 13 i (t2 ||| (if zTwo (s 1 i) && !decide (nI i = wo) then zBit (s 3 i) else 0))) := by
      intro t2
      unfold m_X8_laysNeeds_j33
      rw [zWr_n hi (by decide), zRd_n hi (by decide), zU_eq, q_usesSecond hi, zBd_e, zU_ne (show 1 ≠ 13 by decide), c1]
      by_cases hz : zTwo (s 1 i) = true
      · rw [if_pos hz, if_neg (show ¬ (1 : Int32) = 0 by decide)]
        by_cases hw : nI i = wo
        · rw [if_pos hw, zWr_n hi (by decide), zLt_e, nI_s]
          simp [hw]
        · rw [if_neg hw, zRd_n hi (by decide), zU_ne (show 3 ≠ 13 by decide), c3, zWr_n hi (by decide), zLt_e, nI_s]
          simp [hw, hz, zBit]
      · rw [if_neg hz, if_pos rfl, zWr_n hi (by decide), zLt_e, nI_s]
        simp [hz]
    refine ⟨zU (zU s' 13 i (if s 1 i = 0 then 0 else zBit (s 2 i))) 13 i (zwU s wo i), ⟨fun k hk => by rw [zU_ne hk, zU_ne hk]; exact h1 k hk, fun a ha => ?_⟩, ?_⟩
    · by_cases e : a = i
      · rw [e, zU_eq]
      · rw [zU_nj e, zU_nj e]; exact h2 a (by omega)
    · show m_X8_laysNeeds_j2 n (f + 1) wo (nI i) s' = m_X8_laysNeeds_j2 n f wo (nI (i + 1)) _
      rw [m_X8_laysNeeds_j2, if_neg (n16 hi), q_usesFirst hi, zBd_e, c1]
      by_cases h0 : s 1 i = 0
      · rw [if_pos h0, if_pos rfl, second]
        unfold zwU zUse
        rw [if_pos h0]
      · rw [if_neg h0, if_neg (show ¬ (1 : Int32) = 0 by decide), zRd_n hi (by decide), c2, second]
        unfold zwU zUse
        rw [if_neg h0]
        rfl) 16 n 0 s rfl (by omega) ⟨fun _ _ => rfl, fun a h => absurd h (Nat.not_lt_zero a)⟩
  -- the turns
  obtain ⟨s2, f2, hf2, ⟨k1, k2, k3⟩, e2⟩ := for_up (fun f t s' => m_X8_laysNeeds_j76 n f (nI t) s') (fun t s' => (∀ k, k ≠ 13 → s' k = s k) ∧ (∀ i, i < 16 → ∀ j, j < 32 → zPath (zw s wo) t i j = true → bt (s' 13 i) j = true) ∧ ∀ i, i < 16 → ∀ j, j < 32 → bt (s' 13 i) j = true → zTC (zw s wo) i j = true) 16 (by
    intro f t s' ht ⟨h1, h2, h3⟩
    obtain ⟨s3, f3, hf3, ⟨r1, r2, r3⟩, e3⟩ := for_up (fun f9 i s9 => m_X8_laysNeeds_j84 (m_X8_laysNeeds_j76 n f) n f9 (nI t) (nI i) s9) (fun i s9 => (∀ k, k ≠ 13 → s9 k = s k) ∧ (∀ a, a < 16 → ∀ j, j < 32 → zPath (zw s wo) (if a < i then t + 1 else t) a j = true → bt (s9 13 a) j = true) ∧ ∀ a, a < 16 → ∀ j, j < 32 → bt (s9 13 a) j = true → zTC (zw s wo) a j = true) 16 (by
      intro f9 i s9 hi ⟨q1, q2, q3⟩
      obtain ⟨s4, f4, hf4, ⟨w1, w2, w3⟩, e4⟩ := for_up (fun f8 m s8 => m_X8_laysNeeds_j93 (m_X8_laysNeeds_j76 n f) (m_X8_laysNeeds_j84 (m_X8_laysNeeds_j76 n f) n f9) n f8 (nI t) (nI i) (nI m) s8) (fun m s8 => (∀ k, k ≠ 13 → s8 k = s k) ∧ (∀ a, a < 16 → ∀ j, j < 32 → zPath (zw s wo) (if a < i ∨ (a = i ∧ t < m) then t + 1 else t) a j = true → bt (s8 13 a) j = true) ∧ ∀ a, a < 16 → ∀ j, j < 32 → bt (s8 13 a) j = true → zTC (zw s wo) a j = true) 16 (by
        intro f8 m s8 hm ⟨x1, x2, x3⟩
        have low : ∀ a, a < 16 → ∀ j, j < 32 → zPath (zw s wo) t a j = true → bt (s8 13 a) j = true := by
          intro a ha j hj hp
          refine x2 a ha j hj ?_
          split
          · exact zPath_up hp
          · exact hp
        by_cases hb : bt (s8 13 i) m = true
        · refine ⟨zU s8 13 i (s8 13 i ||| s8 13 m), ⟨fun k hk => (zU_ne hk).trans (x1 k hk), fun a ha j hj hp => ?_, fun a ha j hj hp => ?_⟩, ?_⟩
          · by_cases e : a = i
            · subst e
              rw [zU_eq, b_or]
              by_cases em : m = t
              · rw [if_pos (Or.inr ⟨rfl, by omega⟩), zPath_s] at hp
                rcases Bool.or_eq_true_iff.mp hp with hp | hp
                · rw [low a ha j hj hp]; rfl
                · obtain ⟨p1, p2⟩ := Bool.and_eq_true_iff.mp hp
                  rw [em, low t ht j hj p2]; simp
              · rw [x2 a ha j hj (by
                  have : (a < a ∨ (a = a ∧ t < m + 1)) ↔ (a < a ∨ (a = a ∧ t < m)) := by omega
                  rw [zif this] at hp; exact hp)]
                rfl
            · rw [zU_nj e]
              refine x2 a ha j hj ?_
              have : (a < i ∨ (a = i ∧ t < m + 1)) ↔ (a < i ∨ (a = i ∧ t < m)) := by omega
              rw [zif this] at hp; exact hp
          · by_cases e : a = i
            · subst e
              rw [zU_eq, b_or] at hp
              rcases Bool.or_eq_true_iff.mp hp with hp | hp
              · exact x3 a ha j hj hp
              · exact zTC_tr hm (x3 a ha m (by omega) hb) (x3 m hm j hj hp)
            · rw [zU_nj e] at hp
              exact x3 a ha j hj hp
          · show m_X8_laysNeeds_j93 _ _ n (f8 + 1) (nI t) (nI i) (nI m) s8 = m_X8_laysNeeds_j93 _ _ n f8 (nI t) (nI i) (nI (m + 1)) _
            rw [m_X8_laysNeeds_j93, if_neg (n16 hm), zRd_n hi (by decide), zRd_n hi (by decide), if_pos ((tb_1 (by omega)).mpr hb), zRd_n hm (by decide), zWr_n hi (by decide), zLt_e, nI_s]
        · refine ⟨zU s8 13 i (s8 13 i ||| 0), ⟨fun k hk => (zU_ne hk).trans (x1 k hk), fun a ha j hj hp => ?_, fun a ha j hj hp => ?_⟩, ?_⟩
          · by_cases e : a = i
            · subst e
              rw [zU_eq, or_0]
              by_cases em : m = t
              · rw [if_pos (Or.inr ⟨rfl, by omega⟩), zPath_s] at hp
                rcases Bool.or_eq_true_iff.mp hp with hp | hp
                · exact low a ha j hj hp
                · obtain ⟨p1, p2⟩ := Bool.and_eq_true_iff.mp hp
                  exact absurd (em ▸ low a ha t (by omega) p1) hb
              · refine x2 a ha j hj ?_
                have : (a < a ∨ (a = a ∧ t < m + 1)) ↔ (a < a ∨ (a = a ∧ t < m)) := by omega
                rw [zif this] at hp; exact hp
            · rw [zU_nj e]
              refine x2 a ha j hj ?_
              have : (a < i ∨ (a = i ∧ t < m + 1)) ↔ (a < i ∨ (a = i ∧ t < m)) := by omega
              rw [zif this] at hp; exact hp
          · by_cases e : a = i
            · subst e
              rw [zU_eq, or_0] at hp
              exact x3 a ha j hj hp
            · rw [zU_nj e] at hp
              exact x3 a ha j hj hp
          · show m_X8_laysNeeds_j93 _ _ n (f8 + 1) (nI t) (nI i) (nI m) s8 = m_X8_laysNeeds_j93 _ _ n f8 (nI t) (nI i) (nI (m + 1)) _
            rw [m_X8_laysNeeds_j93, if_neg (n16 hm), zRd_n hi (by decide), zRd_n hi (by decide), if_neg (fun q => hb ((tb_1 (by omega)).mp q)), zWr_n hi (by decide), zLt_e, nI_s]) 16 n 0 s9 rfl (by omega) ⟨q1, fun a ha j hj hp => q2 a ha j hj (by
          have : (a < i ∨ (a = i ∧ t < 0)) ↔ a < i := by omega
          rw [zif this] at hp; exact hp), q3⟩
      obtain ⟨f4, rfl⟩ : ∃ g, f4 = g + 1 := ⟨f4 - 1, by omega⟩
      refine ⟨s4, ⟨w1, fun a ha j hj hp => w2 a ha j hj (by
          have : (a < i ∨ (a = i ∧ t < 16)) ↔ a < i + 1 := by omega
          rw [zif this]; exact hp), w3⟩, ?_⟩
      show m_X8_laysNeeds_j84 _ n (f9 + 1) (nI t) (nI i) s9 = m_X8_laysNeeds_j84 _ n f9 (nI t) (nI (i + 1)) s4
      rw [m_X8_laysNeeds_j84, if_neg (n16 hi)]
      refine (show _ = _ from e4).trans ?_
      show m_X8_laysNeeds_j93 _ _ n (f4 + 1) (nI t) (nI i) (nI 16) s4 = _
      rw [m_X8_laysNeeds_j93, if_pos n16e, zLt_e, nI_s]) 16 n 0 s' rfl (by omega) ⟨h1, fun a ha j hj hp => h2 a ha j hj (by simpa using hp), h3⟩
    obtain ⟨f3, rfl⟩ : ∃ g, f3 = g + 1 := ⟨f3 - 1, by omega⟩
    refine ⟨s3, ⟨r1, fun i hi j hj hp => r2 i hi j hj (by rw [if_pos hi]; exact hp), r3⟩, ?_⟩
    show m_X8_laysNeeds_j76 n (f + 1) (nI t) s' = m_X8_laysNeeds_j76 n f (nI (t + 1)) s3
    rw [m_X8_laysNeeds_j76, if_neg (n16 ht)]
    refine (show _ = _ from e3).trans ?_
    show m_X8_laysNeeds_j84 _ n (f3 + 1) (nI t) (nI 16) s3 = _
    rw [m_X8_laysNeeds_j84, if_pos n16e, zLt_e, nI_s]) 16 n 0 s1 rfl (by omega) ⟨g1, fun i hi j hj hp => by rw [g2 i hi]; exact hp, fun i hi j hj hp => by rw [g2 i hi] at hp; exact zTC_of hp⟩
  obtain ⟨f1, rfl⟩ : ∃ g, f1 = g + 1 := ⟨f1 - 1, by omega⟩
  obtain ⟨f2, rfl⟩ : ∃ g, f2 = g + 1 := ⟨f2 - 1, by omega⟩
  refine ⟨s2, ?_, k1, fun i hi j hj => ?_⟩
  · unfold m_X8_laysNeeds
    refine (show _ = _ from e1).trans ?_
    show m_X8_laysNeeds_j2 n (f1 + 1) wo (nI 16) s1 = _
    rw [m_X8_laysNeeds_j2, if_pos n16e]
    refine (show _ = _ from e2).trans ?_
    show m_X8_laysNeeds_j76 n (f2 + 1) (nI 16) s2 = _
    rw [m_X8_laysNeeds_j76, if_pos n16e]; rfl
  · cases hz : zTC (zw s wo) i j with
    | true => exact k2 i hi j hj hz
    | false =>
      cases hb : bt (s2 13 i) j with
      | false => rfl
      | true => rw [k3 i hi j hj hb] at hz; cases hz
theorem q_depends {n a b : Nat} (ha : a < 16) (hb : b < 32) (s : zS) : m_X8_depends n (nI a) (nI b) s = some (if bt (s 13 a) b = true then 1 else 0, s) := by
  unfold m_X8_depends
  rw [zRd_n ha (by decide)]
  by_cases h : bt (s 13 a) b = true
  · rw [if_pos ((tb_1 hb).mpr h), if_pos h]; rfl
  · rw [if_neg (fun q => h ((tb_1 hb).mp q)), if_neg h]; rfl
end PN
end
section
section PG
/-! groups and circles -/
def zGr (r : Nat → Nat → Bool) (i j : Nat) : Bool := decide (j = i) || (decide (j < 16) && (r i j && r j i))
theorem for_or {R σ : Type} (L : Nat → Nat → σ → Option R) (I : Nat → σ → Prop) (N : Nat) (Q : Option R → Prop) (h1 : ∀ f i s, i < N → I i s → (∃ s', I (i + 1) s' ∧ L (f + 1) i s = L f i.succ s') ∨ Q (L (f + 1) i s)) : ∀ (d f i : Nat) (s : σ), i + d = N → d ≤ f → I i s → (∃ s' f', f' + d = f ∧ I N s' ∧ L f i s = L f' N s') ∨ Q (L f i s) := by
  intro d
  induction d with
  | zero => intro f i s hd hf hI; exact Or.inl ⟨s, f, by omega, by rw [← hd]; exact hI, by rw [← hd]; rfl⟩
  | succ d ih =>
    intro f i s hd hf hI
    obtain ⟨f, rfl⟩ : ∃ g, f = g + 1 := ⟨f - 1, by omega⟩
    rcases h1 f i s (by omega) hI with ⟨s1, hI1, e1⟩ | hq
    · rcases ih f (i + 1) s1 (by omega) (by omega) hI1 with ⟨s', f', hf', hI', e'⟩ | hq
      · exact Or.inl ⟨s', f', by omega, hI', e1.trans e'⟩
      · exact Or.inr (by rw [e1]; exact hq)
    · exact Or.inr hq
theorem p_findGroups {n : Nat} (hn : 100 ≤ n) {r : Nat → Nat → Bool} (s : zS) (hr : ∀ i, i < 16 → ∀ j, j < 32 → bt (s 7 i) j = r i j) : ∃ s', m_X4_findGroups n s = some (0, s') ∧ (∀ k, k ≠ 8 → s' k = s k) ∧ ∀ i, i < 16 → ∀ j, j < 32 → bt (s' 8 i) j = zGr r i j := by
  obtain ⟨s1, f1, hf1, ⟨g1, g2⟩, e1⟩ := for_up (fun f i s' => m_X4_findGroups_j2 n f (nI i) s') (fun i s' => (∀ k, k ≠ 8 → s' k = s k) ∧ ∀ a, a < i → ∀ j, j < 32 → bt (s' 8 a) j = zGr r a j) 16 (by
    intro f i s' hi ⟨h1, h2⟩
    have h7 : ∀ a, a < 16 → ∀ j, j < 32 → bt (s' 7 a) j = r a j := by intro a ha j hj; rw [h1 7 (by decide)]; exact hr a ha j hj
    obtain ⟨v, f3, hf3, r1, e3⟩ := for_up (fun f9 o (v : Int32) => m_X4_findGroups_j15 (m_X4_findGroups_j2 n f) n f9 (nI i) v (nI o) s') (fun o v => ∀ j, j < 32 → bt v j = (decide (j = i) || (decide (j < o) && (r i j && r j i)))) 16 (by
      intro f9 o v ho q
      have hs : ∀ j, (decide (j < o + 1) && (r i j && r j i)) = ((decide (j < o) && (r i j && r j i)) || (decide (j = o) && (r i o && r o i))) := by
        intro j
        by_cases e : j = o
        · subst e; simp
        · have : (j < o + 1) = (j < o) := propext (by omega)
          simp [this, e]
      by_cases b1 : bt (s' 7 i) o = true
      · by_cases b2 : bt (s' 7 o) i = true
        · refine ⟨v ||| zBit (nI o), fun j hj => ?_, ?_⟩
          · rw [hs, b_or, q j hj, bt_bit (by omega) hj, ← h7 i hi o (by omega), ← h7 o ho i (by omega), b1, b2]
            simp [Bool.or_assoc]
          · show m_X4_findGroups_j15 _ n (f9 + 1) (nI i) v (nI o) s' = _
            rw [m_X4_findGroups_j15, if_neg (n16 ho), p_reach, zBd_e, a16 hi, p_has, zBd_e, has_n (by omega), if_pos b1, if_neg (by decide), p_reach, zBd_e, a16 ho, p_has, zBd_e, has_n (by omega), if_pos b2, if_neg (by decide), p_bit, zBd_e, zLt_e, zLt_e, nI_s]
        · refine ⟨v, fun j hj => ?_, ?_⟩
          · rw [hs, q j hj, ← h7 o ho i (by omega), (by simpa using b2 : bt (s' 7 o) i = false)]; simp
          · show m_X4_findGroups_j15 _ n (f9 + 1) (nI i) v (nI o) s' = _
            rw [m_X4_findGroups_j15, if_neg (n16 ho), p_reach, zBd_e, a16 hi, p_has, zBd_e, has_n (by omega), if_pos b1, if_neg (by decide), p_reach, zBd_e, a16 ho, p_has, zBd_e, has_n (by omega), if_neg b2, if_pos rfl, zLt_e, nI_s]
      · refine ⟨v, fun j hj => ?_, ?_⟩
        · rw [hs, q j hj, ← h7 i hi o (by omega), (by simpa using b1 : bt (s' 7 i) o = false)]; simp
        · show m_X4_findGroups_j15 _ n (f9 + 1) (nI i) v (nI o) s' = _
          rw [m_X4_findGroups_j15, if_neg (n16 ho), p_reach, zBd_e, a16 hi, p_has, zBd_e, has_n (by omega), if_neg b1, if_pos rfl, zLt_e, nI_s]) 16 n 0 (zBit (nI i)) rfl (by omega) (fun j hj => by rw [bt_bit (by omega) hj]; simp)
    obtain ⟨f3, rfl⟩ : ∃ g, f3 = g + 1 := ⟨f3 - 1, by omega⟩
    refine ⟨zU s' 8 i v, ⟨fun k hk => (zU_ne hk).trans (h1 k hk), fun a ha j hj => ?_⟩, ?_⟩
    · by_cases e : a = i
      · rw [e, zU_eq]; exact r1 j hj
      · rw [zU_nj e]; exact h2 a (by omega) j hj
    · show m_X4_findGroups_j2 n (f + 1) (nI i) s' = m_X4_findGroups_j2 n f (nI (i + 1)) _
      rw [m_X4_findGroups_j2, if_neg (n16 hi), p_bit, zBd_e]
      refine (show _ = _ from e3).trans ?_
      show m_X4_findGroups_j15 _ n (f3 + 1) (nI i) v (nI 16) s' = _
      rw [m_X4_findGroups_j15, if_pos n16e, p_put hi (by decide), zBd_e, zLt_e, nI_s]) 16 n 0 s rfl (by omega) ⟨fun _ _ => rfl, fun a h => absurd h (Nat.not_lt_zero a)⟩
  obtain ⟨f1, rfl⟩ : ∃ g, f1 = g + 1 := ⟨f1 - 1, by omega⟩
  refine ⟨s1, ?_, g1, g2⟩
  unfold m_X4_findGroups
  refine (show _ = _ from e1).trans ?_
  show m_X4_findGroups_j2 n (f1 + 1) (nI 16) s1 = _
  rw [m_X4_findGroups_j2, if_pos n16e]; rfl
/-- the reference's circle -/
theorem q_circle {n i : Nat} (hn : 100 ≤ n) (hi : i < 16) {r : Nat → Nat → Bool} (s : zS) (hr : ∀ i, i < 16 → ∀ j, j < 32 → bt (s 13 i) j = r i j) : ∃ v, m_X8_circle n (nI i) s = some (v, s) ∧ ∀ j, j < 32 → bt v j = (decide (j < 16) && (r i j && r j i)) := by
  obtain ⟨v, f3, hf3, r1, e3⟩ := for_up (fun f9 o (v : Int32) => m_X8_circle_j4 n f9 (nI i) v (nI o) s) (fun o v => ∀ j, j < 32 → bt v j = (decide (j < o) && (r i j && r j i))) 16 (by
    intro f9 o v ho q
    have hs : ∀ j, (decide (j < o + 1) && (r i j && r j i)) = ((decide (j < o) && (r i j && r j i)) || (decide (j = o) && (r i o && r o i))) := by
      intro j
      by_cases e : j = o
      · subst e; simp
      · have : (j < o + 1) = (j < o) := propext (by omega)
        simp [this, e]
    by_cases b1 : bt (s 13 i) o = true
    · by_cases b2 : bt (s 13 o) i = true
      · refine ⟨v ||| zBit (nI o), fun j hj => ?_, ?_⟩
        · rw [hs, b_or, q j hj, bt_bit (by omega) hj, ← hr i hi o (by omega), ← hr o ho i (by omega), b1, b2]
          simp
        · show m_X8_circle_j4 n (f9 + 1) (nI i) v (nI o) s = _
          rw [m_X8_circle_j4, if_neg (n16 ho), q_depends hi (by omega), zBd_e, if_pos b1, if_neg (by decide), q_depends ho (by omega), zBd_e, if_pos b2, if_neg (by decide), zLt_e, zLt_e, nI_s]; rfl
      · refine ⟨v ||| 0, fun j hj => ?_, ?_⟩
        · rw [hs, or_0, q j hj, ← hr o ho i (by omega), (by simpa using b2 : bt (s 13 o) i = false)]; simp
        · show m_X8_circle_j4 n (f9 + 1) (nI i) v (nI o) s = _
          rw [m_X8_circle_j4, if_neg (n16 ho), q_depends hi (by omega), zBd_e, if_pos b1, if_neg (by decide), q_depends ho (by omega), zBd_e, if_neg b2, if_pos rfl, zLt_e, zLt_e, nI_s]
    · refine ⟨v ||| 0, fun j hj => ?_, ?_⟩
      · rw [hs, or_0, q j hj, ← hr i hi o (by omega), (by simpa using b1 : bt (s 13 i) o = false)]; simp
      · show m_X8_circle_j4 n (f9 + 1) (nI i) v (nI o) s = _
        rw [m_X8_circle_j4, if_neg (n16 ho), q_depends hi (by omega), zBd_e, if_neg b1, if_pos rfl, zLt_e, zLt_e, nI_s]) 16 n 0 0 rfl (by omega) (fun j hj => by rw [b_0]; simp)
  obtain ⟨f3, rfl⟩ : ∃ g, f3 = g + 1 := ⟨f3 - 1, by omega⟩
  refine ⟨v, ?_, r1⟩
  unfold m_X8_circle
  refine (show _ = _ from e3).trans ?_
  show m_X8_circle_j4 n (f3 + 1) (nI i) v (nI 16) s = _
  rw [m_X8_circle_j4, if_pos n16e]; rfl
end PG
end
section
section PO
/-! the order that the class lays -/
theorem pig16 {o : Nat → Nat} (h : ∀ p, p < 16 → o p < 16) (hi : ∀ p q, p < 16 → q < 16 → o p = o q → p = q) {k : Nat} (hk : k < 16) : ∃ p, p < 16 ∧ o p = k := by
  refine Classical.byContradiction (fun hn => ?_)
  have nd : ((List.range 16).map o).Nodup := by
    refine List.Pairwise.map _ (fun a b hab => hab) ?_
    refine List.Pairwise.imp_of_mem ?_ (List.nodup_range (n := 16))
    intro a b ha hb hab e
    exact hab (hi a b (List.mem_range.mp ha) (List.mem_range.mp hb) e)
  have sub : (List.range 16).map o ⊆ (List.range 16).filter (fun j => decide (j ≠ k)) := by
    intro j hj
    obtain ⟨p, hp, rfl⟩ := List.mem_map.mp hj
    refine List.mem_filter.mpr ⟨List.mem_range.mpr (h p (List.mem_range.mp hp)), decide_eq_true (fun e => hn ⟨p, List.mem_range.mp hp, e⟩)⟩
  have l1 := nd.length_le_of_subset sub
  have l2 : ((List.range 16).filter (fun j => decide (j ≠ k))).length < (List.range 16).length :=
    List.length_filter_lt_length_iff_exists.mpr ⟨k, List.mem_range.mpr hk, by simp⟩
  rw [List.length_map] at l1
  omega
def zo (s : zS) (p : Nat) : Nat := (s 9 p).toNatClampNeg
def zOrd (s : zS) (z : Nat) : Prop := s 6 3 = nI z ∧ z ≤ 16 ∧ (∀ p, p < z → zo s p < 16 ∧ s 9 p = nI (zo s p)) ∧ (∀ p q, p < z → q < z → zo s p = zo s q → p = q) ∧ ∀ j, j < 32 → (bt (s 6 4) j = true ↔ ∃ p, p < z ∧ zo s p = j)
theorem zOrd_room {s : zS} {z k : Nat} (h : zOrd s z) (hk : k < 16) (hp : ¬ bt (s 6 4) k = true) : z < 16 := by
  obtain ⟨h1, h2, h3, h4, h5⟩ := h
  rcases Nat.lt_or_ge z 16 with hz | hz
  · exact hz
  · have e : z = 16 := by omega
    subst e
    obtain ⟨p, hp1, hp2⟩ := pig16 (o := zo s) (fun p hp => (h3 p hp).1) h4 hk
    exact absurd ((h5 k (by omega)).mpr ⟨p, hp1, hp2⟩) hp
theorem p_place {n z k : Nat} {s : zS} (h : zOrd s z) (hk : k < 16) (hp : ¬ bt (s 6 4) k = true) : ∃ s', m_X4_place n (nI k) s = some (0, s') ∧ zOrd s' (z + 1) ∧ (∀ c, c ≠ 6 → c ≠ 9 → s' c = s c) ∧ s' 6 5 = s 6 5 ∧ s' 6 6 = s 6 6 ∧ zo s' z = k ∧ (∀ p, p < z → zo s' p = zo s p) ∧ ∀ j, j < 32 → bt (s' 6 4) j = (bt (s 6 4) j || decide (j = k)) := by
  have hz := zOrd_room h hk hp
  obtain ⟨h1, h2, h3, h4, h5⟩ := h
  have e9 : ∀ v w, zo (zU (zU (zU s 9 z (nI k)) 6 3 v) 6 4 w) = fun p => if p = z then k else zo s p := by
    intro v w
    funext p
    unfold zo
    rw [zU_ne (show 9 ≠ 6 by decide), zU_ne (show 9 ≠ 6 by decide), zU_g]
    by_cases e : p = z
    · rw [if_pos ⟨rfl, e⟩, if_pos e, nI_cl (by omega)]
    · rw [if_neg (fun q => e q.2), if_neg e]
  have n9 : ∀ v w p, p ≠ z → (zU (zU (zU s 9 z (nI k)) 6 3 v) 6 4 w) 9 p = s 9 p := by
    intro v w p hpz
    rw [zU_ne (show 9 ≠ 6 by decide), zU_ne (show 9 ≠ 6 by decide), zU_nj hpz]
  refine ⟨zU (zU (zU s 9 z (nI k)) 6 3 (nI (z + 1))) 6 4 (s 6 4 ||| zBit (nI k)), ?_, ⟨?_, by omega, fun p hpz => ?_, fun p q hpz hqz he => ?_, fun j hj => ?_⟩, fun c hc1 hc2 => ?_, ?_, ?_, ?_, fun p hpz => ?_, fun j hj => ?_⟩
  · unfold m_X4_place
    rw [h1, p_put hz (by decide), zBd_e, zLt_e, p_bit, zBd_e, zLt_e, zU_ne (show 6 ≠ 9 by decide), h1, nI_s]
    rw [zU_nj (show 4 ≠ 3 by decide), zU_ne (show 6 ≠ 9 by decide)]; rfl
  · rw [zU_nj (show 3 ≠ 4 by decide), zU_eq]
  · rw [e9]
    by_cases e : p = z
    · simp only [if_pos e]
      refine ⟨hk, ?_⟩
      rw [e, zU_ne (show 9 ≠ 6 by decide), zU_ne (show 9 ≠ 6 by decide), zU_eq]
    · simp only [if_neg e]
      rw [n9 _ _ p e]
      exact h3 p (by omega)
  · rw [e9] at he
    have nk : ∀ q, q < z → zo s q ≠ k := fun q hq e => hp ((h5 k (by omega)).mpr ⟨q, hq, e⟩)
    by_cases a : p = z <;> by_cases b : q = z
    · omega
    · simp only [if_pos a, if_neg b] at he; exact absurd he.symm (nk q (by omega))
    · simp only [if_neg a, if_pos b] at he; exact absurd he (nk p (by omega))
    · simp only [if_neg a, if_neg b] at he; exact h4 p q (by omega) (by omega) he
  · rw [zU_eq, b_or, bt_bit (by omega) hj, e9, Bool.or_eq_true_iff, h5 j hj]
    constructor
    · rintro (⟨p, hp1, hp2⟩ | e)
      · exact ⟨p, by omega, by simp only [if_neg (show ¬ p = z by omega)]; exact hp2⟩
      · exact ⟨z, by omega, by simp only [if_pos]; exact (of_decide_eq_true e).symm⟩
    · rintro ⟨p, hp1, hp2⟩
      by_cases e : p = z
      · simp only [if_pos e] at hp2
        exact Or.inr (decide_eq_true hp2.symm)
      · simp only [if_neg e] at hp2
        exact Or.inl ⟨p, by omega, hp2⟩
  · rw [zU_ne hc1, zU_ne hc1, zU_ne hc2]
  · rw [zU_nj (show 5 ≠ 4 by decide), zU_nj (show 5 ≠ 3 by decide), zU_ne (show 6 ≠ 9 by decide)]
  · rw [zU_nj (show 6 ≠ 4 by decide), zU_nj (show 6 ≠ 3 by decide), zU_ne (show 6 ≠ 9 by decide)]
  · rw [e9]; simp only [if_pos]
  · rw [e9]; simp only [if_neg (show ¬ p = z by omega)]
  · rw [zU_eq, b_or, bt_bit (by omega) hj]
end PO
end
section
section PD
/-! lines as they may stand; what a line uses; how it moves -/
def zN (v : Int32) : Nat := v.toNatClampNeg
def zWf (K F G : Nat → Int32) : Prop := ∀ i, i < 16 → (∃ a, a < 9 ∧ K i = nI a) ∧ (K i ≠ 0 → ∃ a, a < 16 ∧ F i = nI a) ∧ (zTwo (K i) = true → ∃ a, a < 16 ∧ G i = nI a) ∧ (K i = 3 → ∃ a, a ≤ 1000 ∧ G i = nI a)
theorem zN_n {a : Nat} (h : a < 2147483648) : zN (nI a) = a := nI_cl h
theorem zWf_f {K F G : Nat → Int32} (h : zWf K F G) {i : Nat} (hi : i < 16) (hk : K i ≠ 0) : zN (F i) < 16 ∧ F i = nI (zN (F i)) := by
  obtain ⟨a, ha, e⟩ := (h i hi).2.1 hk
  rw [e, zN_n (by omega)]; exact ⟨ha, rfl⟩
theorem zWf_g {K F G : Nat → Int32} (h : zWf K F G) {i : Nat} (hi : i < 16) (hk : zTwo (K i) = true) : zN (G i) < 16 ∧ G i = nI (zN (G i)) := by
  obtain ⟨a, ha, e⟩ := (h i hi).2.2.1 hk
  rw [e, zN_n (by omega)]; exact ⟨ha, rfl⟩
theorem zTwo_ne {k : Int32} (h : zTwo k = true) : k ≠ 0 := by
  intro e; rw [e] at h; exact absurd h (by decide)
/-- what a line uses -/
def zUb (K F G : Nat → Int32) (wo : Bool) (i j : Nat) : Prop := (K i ≠ 0 ∧ j = zN (F i)) ∨ (zTwo (K i) = true ∧ wo = false ∧ j = zN (G i))
theorem use_bt {K F G : Nat → Int32} (h : zWf K F G) {i : Nat} (hi : i < 16) (wo : Bool) {j : Nat} (hj : j < 32) : bt (zUse (K i) (F i) (G i) wo) j = true ↔ zUb K F G wo i j := by
  unfold zUse zUb
  rw [b_or, Bool.or_eq_true_iff]
  refine or_congr ?_ ?_
  · by_cases hk : K i = 0
    · rw [if_pos hk, b_0]; simp [hk]
    · obtain ⟨h1, h2⟩ := zWf_f h hi hk
      rw [if_neg hk, h2, bt_bit (by omega) hj, ← h2]; simp [hk]
  · by_cases hk : zTwo (K i) = true
    · cases wo with
      | true => simp [b_0]
      | false =>
        obtain ⟨h1, h2⟩ := zWf_g h hi hk
        rw [if_pos (by simp [hk]), h2, bt_bit (by omega) hj, ← h2]; simp [hk]
    · rw [if_neg (by simp [hk]), b_0]; simp [hk]
theorem zUb_lt {K F G : Nat → Int32} (h : zWf K F G) {i : Nat} (hi : i < 16) {wo : Bool} {j : Nat} (hu : zUb K F G wo i j) : j < 16 := by
  rcases hu with ⟨h1, e⟩ | ⟨h1, _, e⟩
  · rw [e]; exact (zWf_f h hi h1).1
  · rw [e]; exact (zWf_g h hi h1).1
theorem and_0 {x y : Int32} : (x &&& y) = 0 ↔ ∀ j, j < 32 → ¬ (bt x j = true ∧ bt y j = true) := by
  constructor
  · intro h j hj hb
    have : bt (x &&& y) j = bt 0 j := by rw [h]
    rw [b_and, hb.1, hb.2, b_0] at this
    cases this
  · intro h
    apply b_ext
    intro j hj
    rw [b_and, b_0]
    have := h j hj
    cases ha : bt x j <;> cases hb : bt y j <;> simp_all
theorem andn_0 {x y : Int32} : (x &&& (y ^^^ (-1 : Int32))) = 0 ↔ ∀ j, j < 32 → bt x j = true → bt y j = true := by
  rw [and_0]
  constructor
  · intro h j hj hx
    have := h j hj
    rw [b_xor, b_m1 j hj] at this
    cases hy : bt y j
    · rw [hy] at this; exact absurd ⟨hx, rfl⟩ this
    · rfl
  · intro h j hj ⟨hx, hy⟩
    rw [b_xor, b_m1 j hj, h j hj hx] at hy
    cases hy
/-- whether a line goes along with a, when b goes the other way -/
def mvA (K F G : Nat → Int32) (a b : Nat → Bool) (k : Nat) : Bool := (decide (K k ≠ 0) && a (zN (F k))) || (zTwo (K k) && (if K k = 2 then b (zN (G k)) else a (zN (G k))))
theorem dir_eq {K F G : Nat → Int32} (h : zWf K F G) {k : Nat} (hk : k < 16) (x y : Int32) : (¬ ((if K k = 2 then zBit (F k) else zUse (K k) (F k) (G k) false) &&& x) = 0 ∨ ¬ ((if K k = 2 then zBit (G k) else 0) &&& y) = 0) ↔ mvA K F G (bt x) (bt y) k = true := by
  unfold mvA
  have hb : ∀ (w : Int32) (m : Nat), m < 16 → (¬ (zBit (nI m) &&& w) = 0 ↔ bt w m = true) := by
    intro w m hm
    rw [Int32.and_comm, and_bit (by omega)]
    simp
  have h00 : ∀ w : Int32, (0 : Int32) &&& w = 0 := fun w => and_0.mpr (fun j _ q => by rw [b_0] at q; exact absurd q.1 (by decide))
  by_cases h2 : K k = 2
  · have hne : K k ≠ 0 := by rw [h2]; decide
    have ht : zTwo (K k) = true := by rw [h2]; decide
    obtain ⟨f1, f2⟩ := zWf_f h hk hne
    obtain ⟨g1, g2⟩ := zWf_g h hk ht
    rw [if_pos h2, if_pos h2, if_pos h2, f2, g2, hb x _ f1, hb y _ g1, ← f2, ← g2]
    simp [hne, ht]
  · rw [if_neg h2, if_neg h2, if_neg h2, h00]
    have : (¬ (zUse (K k) (F k) (G k) false &&& x) = 0) ↔ ((K k ≠ 0 ∧ bt x (zN (F k)) = true) ∨ (zTwo (K k) = true ∧ bt x (zN (G k)) = true)) := by
      rw [and_0]
      constructor
      · intro hq
        refine Classical.byContradiction (fun hn => hq (fun j hj ⟨q1, q2⟩ => hn ?_))
        rcases (use_bt h hk false hj).mp q1 with ⟨a1, a2⟩ | ⟨a1, _, a2⟩
        · exact Or.inl ⟨a1, a2 ▸ q2⟩
        · exact Or.inr ⟨a1, a2 ▸ q2⟩
      · rintro (⟨a1, a2⟩ | ⟨a1, a2⟩) hq
        · have := (zWf_f h hk a1).1
          exact hq _ (by omega) ⟨(use_bt h hk false (by omega)).mpr (Or.inl ⟨a1, rfl⟩), a2⟩
        · have := (zWf_g h hk a1).1
          exact hq _ (by omega) ⟨(use_bt h hk false (by omega)).mpr (Or.inr ⟨a1, rfl, rfl⟩), a2⟩
    rw [this]
    simp
theorem p_direct {n k : Nat} (hk : k < 16) {s : zS} (hw : zWf (s 2) (s 3) (s 4)) : ∃ s', m_X4_direct n (nI k) s = some (0, s') ∧ (∀ c, c ≠ 6 → s' c = s c) ∧ s' 6 3 = s 6 3 ∧ s' 6 4 = s 6 4 ∧ (∀ j, j < 32 → bt (s' 6 5) j = (bt (s 6 5) j || (decide (j = k) && mvA (s 2) (s 3) (s 4) (bt (s 6 5)) (bt (s 6 6)) k))) ∧ ∀ j, j < 32 → bt (s' 6 6) j = (bt (s 6 6) j || (decide (j = k) && mvA (s 2) (s 3) (s 4) (bt (s 6 6)) (bt (s 6 5)) k)) := by
  have last : ∀ (al ag : Int32), (¬ (al &&& s 6 5) = 0 ∨ ¬ (ag &&& s 6 6) = 0 ↔ mvA (s 2) (s 3) (s 4) (bt (s 6 5)) (bt (s 6 6)) k = true) → (¬ (al &&& s 6 6) = 0 ∨ ¬ (ag &&& s 6 5) = 0 ↔ mvA (s 2) (s 3) (s 4) (bt (s 6 6)) (bt (s 6 5)) k = true) → ∃ s', m_X4_direct_j53 n (nI k) al ag s = some (0, s') ∧ (∀ c, c ≠ 6 → s' c = s c) ∧ s' 6 3 = s 6 3 ∧ s' 6 4 = s 6 4 ∧ (∀ j, j < 32 → bt (s' 6 5) j = (bt (s 6 5) j || (decide (j = k) && mvA (s 2) (s 3) (s 4) (bt (s 6 5)) (bt (s 6 6)) k))) ∧ ∀ j, j < 32 → bt (s' 6 6) j = (bt (s 6 6) j || (decide (j = k) && mvA (s 2) (s 3) (s 4) (bt (s 6 6)) (bt (s 6 5)) k)) := by
    intro al ag e1 e2
    generalize mvA (s 2) (s 3) (s 4) (bt (s 6 5)) (bt (s 6 6)) k = A at e1 ⊢
    generalize mvA (s 2) (s 3) (s 4) (bt (s 6 6)) (bt (s 6 5)) k = B at e2 ⊢
    have t1 : m_X4_direct_j53 n (nI k) al ag s = m_X4_direct_j80 n (nI k) al ag (if A then 1 else 0) s := by
      unfold m_X4_direct_j53
      by_cases q1 : (al &&& s 6 5) = 0
      · rw [if_pos q1]
        by_cases q2 : (ag &&& s 6 6) = 0
        · rw [if_pos q2]
          have : ¬ A = true := fun h => by rcases e1.mpr h with h | h <;> exact h (by assumption)
          rw [if_neg this]
        · rw [if_neg q2, if_pos (e1.mp (Or.inr q2))]
      · rw [if_neg q1, if_pos (e1.mp (Or.inl q1))]
    have t2 : m_X4_direct_j80 n (nI k) al ag (if A then 1 else 0) s = m_X4_direct_j107 n (nI k) (if A then 1 else 0) (if B then 1 else 0) s := by
      unfold m_X4_direct_j80
      by_cases q1 : (al &&& s 6 6) = 0
      · rw [if_pos q1]
        by_cases q2 : (ag &&& s 6 5) = 0
        · rw [if_pos q2]
          have : ¬ B = true := fun h => by rcases e2.mpr h with h | h <;> exact h (by assumption)
          rw [if_neg this]
        · rw [if_neg q2, if_pos (e2.mp (Or.inr q2))]
      · rw [if_neg q1, if_pos (e2.mp (Or.inl q1))]
    rw [t1, t2]
    have bk : ∀ j, j < 32 → bt (zBit (nI k)) j = decide (j = k) := fun j hj => bt_bit (by omega) hj
    cases A <;> cases B
    · refine ⟨s, rfl, fun _ _ => rfl, rfl, rfl, fun j hj => by simp, fun j hj => by simp⟩
    · refine ⟨zU s 6 6 (s 6 6 ||| zBit (nI k)), rfl, fun c hc => zU_ne hc, zU_nj (by decide), zU_nj (by decide), fun j hj => by rw [zU_nj (show 5 ≠ 6 by decide)]; simp, fun j hj => by rw [zU_eq, b_or, bk j hj]; simp⟩
    · refine ⟨zU s 6 5 (s 6 5 ||| zBit (nI k)), rfl, fun c hc => zU_ne hc, zU_nj (by decide), zU_nj (by decide), fun j hj => by rw [zU_eq, b_or, bk j hj]; simp, fun j hj => by rw [zU_nj (show 6 ≠ 5 by decide)]; simp⟩
    · refine ⟨zU (zU s 6 5 (s 6 5 ||| zBit (nI k))) 6 6 (zU s 6 5 (s 6 5 ||| zBit (nI k)) 6 6 ||| zBit (nI k)), rfl, fun c hc => by rw [zU_ne hc, zU_ne hc], by rw [zU_nj (by decide), zU_nj (by decide)], by rw [zU_nj (by decide), zU_nj (by decide)], fun j hj => by rw [zU_nj (show 5 ≠ 6 by decide), zU_eq, b_or, bk j hj]; simp, fun j hj => by rw [zU_eq, zU_nj (show 6 ≠ 5 by decide), b_or, bk j hj]; simp⟩
  have d1 := dir_eq hw hk (s 6 5) (s 6 6)
  have d2 := dir_eq hw hk (s 6 6) (s 6 5)
  by_cases h2 : s 2 k = 2
  · rw [if_pos h2, if_pos h2] at d1 d2
    obtain ⟨s', e, r⟩ := last _ _ d1 d2
    refine ⟨s', ?_, r⟩
    unfold m_X4_direct m_X4_direct_j14 m_X4_direct_j35
    rw [p_kind, zBd_e, a16 hk, if_pos h2, if_neg (by decide), p_first, zBd_e, a16 hk, p_bit, zBd_e, if_neg (by decide), p_second, zBd_e, a16 hk, p_bit, zBd_e, e]
  · rw [if_neg h2, if_neg h2] at d1 d2
    obtain ⟨s', e, r⟩ := last _ _ d1 d2
    refine ⟨s', ?_, r⟩
    unfold m_X4_direct m_X4_direct_j14 m_X4_direct_j35
    rw [p_kind, zBd_e, a16 hk, if_neg h2, if_pos rfl, p_uses_n hk, zBd_e, if_pos rfl]
    exact e
/-- the one LIMIT of a group -/
def zOne (K : Nat → Int32) (v : Int32) (L : Nat) : Prop := L < 16 ∧ ∀ k, k < 16 → ((bt v k = true ∧ K k = 8) ↔ k = L)
theorem p_onlyLimit {n : Nat} (hn : 100 ≤ n) (v : Int32) (s : zS) : (∃ L, zOne (s 2) v L ∧ m_X4_onlyLimit n v s = some (nI L, s)) ∨ ((¬ ∃ L, zOne (s 2) v L) ∧ m_X4_onlyLimit n v s = some (-1, s)) := by
  have key := for_or (fun f i (w : Int32) => m_X4_onlyLimit_j5 n f v w (nI i) s) (fun i w => (w = -1 ∧ ∀ k, k < i → ¬ (bt v k = true ∧ s 2 k = 8)) ∨ ∃ L, L < i ∧ w = nI L ∧ ∀ k, k < i → ((bt v k = true ∧ s 2 k = 8) ↔ k = L)) 16 (fun r => (¬ ∃ L, zOne (s 2) v L) ∧ r = some (-1, s)) (by
    intro f i w hi hI
    by_cases hb : bt v i = true
    · by_cases h8 : s 2 i = 8
      · rcases hI with ⟨hw, hI⟩ | ⟨L, hL, hw, hI⟩
        · refine Or.inl ⟨nI i, Or.inr ⟨i, by omega, rfl, fun k hk => ?_⟩, ?_⟩
          · by_cases e : k = i
            · rw [e]; simp [hb, h8]
            · simp only [e, iff_false]; exact hI k (by omega)
          · show m_X4_onlyLimit_j5 n (f + 1) v w (nI i) s = _
            rw [m_X4_onlyLimit_j5, if_neg (n16 hi), p_has, zBd_e, has_n (by omega), if_pos hb, if_neg (by decide), p_kind, zBd_e, a16 hi, if_pos h8, if_pos hw, zLt_e, nI_s]
        · refine Or.inr ⟨?_, ?_⟩
          · rintro ⟨M, _, hM⟩
            have m1 := (hM i hi).mp ⟨hb, h8⟩
            have m2 := (hM L (by omega)).mp ((hI L hL).mpr rfl)
            omega
          · show m_X4_onlyLimit_j5 n (f + 1) v w (nI i) s = _
            rw [m_X4_onlyLimit_j5, if_neg (n16 hi), p_has, zBd_e, has_n (by omega), if_pos hb, if_neg (by decide), p_kind, zBd_e, a16 hi, if_pos h8, if_neg, ]
            · rfl
            · rw [hw]
              intro e
              exact nI_pos (n := L) (by omega) (by rw [e]; decide)
      · refine Or.inl ⟨w, ?_, ?_⟩
        · rcases hI with ⟨hw, hI⟩ | ⟨L, hL, hw, hI⟩
          · refine Or.inl ⟨hw, fun k hk => ?_⟩
            by_cases e : k = i
            · rw [e]; exact fun q => h8 q.2
            · exact hI k (by omega)
          · refine Or.inr ⟨L, by omega, hw, fun k hk => ?_⟩
            by_cases e : k = i
            · rw [e]
              exact ⟨fun q => absurd q.2 h8, fun q => by omega⟩
            · exact hI k (by omega)
        · show m_X4_onlyLimit_j5 n (f + 1) v w (nI i) s = _
          rw [m_X4_onlyLimit_j5, if_neg (n16 hi), p_has, zBd_e, has_n (by omega), if_pos hb, if_neg (by decide), p_kind, zBd_e, a16 hi, if_neg h8, zLt_e, nI_s]
    · refine Or.inl ⟨w, ?_, ?_⟩
      · rcases hI with ⟨hw, hI⟩ | ⟨L, hL, hw, hI⟩
        · refine Or.inl ⟨hw, fun k hk => ?_⟩
          by_cases e : k = i
          · rw [e]; exact fun q => hb q.1
          · exact hI k (by omega)
        · refine Or.inr ⟨L, by omega, hw, fun k hk => ?_⟩
          by_cases e : k = i
          · rw [e]
            exact ⟨fun q => absurd q.1 hb, fun q => by omega⟩
          · exact hI k (by omega)
      · show m_X4_onlyLimit_j5 n (f + 1) v w (nI i) s = _
        rw [m_X4_onlyLimit_j5, if_neg (n16 hi), p_has, zBd_e, has_n (by omega), if_neg hb, if_pos rfl, zLt_e, nI_s]) 16 n 0 (-1) rfl (by omega) (Or.inl ⟨rfl, fun k h => absurd h (Nat.not_lt_zero k)⟩)
  rcases key with ⟨w, f', hf', hI, e⟩ | hq
  · obtain ⟨f', rfl⟩ : ∃ g, f' = g + 1 := ⟨f' - 1, by omega⟩
    have e' : m_X4_onlyLimit n v s = some (w, s) := by
      unfold m_X4_onlyLimit
      refine (show _ = _ from e).trans ?_
      show m_X4_onlyLimit_j5 n (f' + 1) v w (nI 16) s = _
      rw [m_X4_onlyLimit_j5, if_pos n16e]; rfl
    rcases hI with ⟨hw, hI⟩ | ⟨L, hL, hw, hI⟩
    · refine Or.inr ⟨?_, by rw [e', hw]⟩
      rintro ⟨M, hM1, hM⟩
      exact hI M hM1 ((hM M hM1).mpr rfl)
    · exact Or.inl ⟨L, ⟨hL, hI⟩, by rw [e', hw]⟩
  · exact Or.inr hq
end PD
end
section
section PK
/-! the class lays a circle -/
/-- ranks and ways in a circle v with the limit L -/
def zRk (K F G : Nat → Int32) (v : Int32) (L : Nat) (A B : Nat → Bool) : Prop := ∃ rk : Nat → Nat, rk L = 0 ∧ (∀ k, k < 16 → rk k ≤ 16) ∧ (∀ k, k < 16 → bt v k = true → k ≠ L → ∀ j, j < 16 → zUb K F G false k j → bt v j = true → rk j < rk k) ∧ A L = true ∧ B L = false ∧ (∀ k, k < 16 → ¬ bt v k = true → A k = false ∧ B k = false) ∧ ∀ k, k < 16 → bt v k = true → k ≠ L → A k = mvA K F G A B k ∧ B k = mvA K F G B A k
def zFall (G : Nat → Int32) (L : Nat) (A B : Nat → Bool) : Prop := (∀ k, k < 16 → ¬ (A k = true ∧ B k = true)) ∧ B (zN (G L)) = true
/-- the circle without the second line of its limit -/
def zwo (K F G : Nat → Int32) (L i j : Nat) : Bool := bt (zUse (K i) (F i) (G i) (decide (i = L))) j
def zCG (K F G : Nat → Int32) (v : Int32) (L : Nat) : Prop := zOne K v L ∧ ¬ bt v (zN (F L)) = true ∧ ∃ A B, zRk K F G v L A B ∧ zFall G L A B
def zCB (K F G : Nat → Int32) (v : Int32) : Prop := (¬ ∃ L, zOne K v L) ∨ ∃ L, zOne K v L ∧ (bt v (zN (F L)) = true ∨ (∃ k, k < 16 ∧ bt v k = true ∧ zTC (zwo K F G L) k k = true) ∨ ∃ A B, zRk K F G v L A B ∧ ¬ zFall G L A B)
/-- what stands while a circle is laid: z places before it, z1 now -/
def zCI (s : zS) (v : Int32) (L z z1 : Nat) (s' : zS) : Prop := (∀ c, c ≠ 6 → c ≠ 9 → s' c = s c) ∧ zOrd s' z1 ∧ z < z1 ∧ zo s' z = L ∧ (∀ p, p < z → zo s' p = zo s p) ∧ (∀ p, z ≤ p → p < z1 → bt v (zo s' p) = true) ∧ (∀ p, z < p → p < z1 → ∀ j, j < 16 → zUb (s 2) (s 3) (s 4) false (zo s' p) j → ∃ q, q < p ∧ zo s' q = j) ∧ (∀ j, j < 32 → bt (s' 6 5) j = true → ∃ p, z ≤ p ∧ p < z1 ∧ zo s' p = j) ∧ (∀ j, j < 32 → bt (s' 6 6) j = true → ∃ p, z < p ∧ p < z1 ∧ zo s' p = j) ∧ bt (s' 6 5) L = true ∧ ∀ p, z < p → p < z1 → bt (s' 6 5) (zo s' p) = mvA (s 2) (s 3) (s 4) (bt (s' 6 5)) (bt (s' 6 6)) (zo s' p) ∧ bt (s' 6 6) (zo s' p) = mvA (s 2) (s 3) (s 4) (bt (s' 6 6)) (bt (s' 6 5)) (zo s' p)
theorem mvA_c {K F G : Nat → Int32} {a b a' b' : Nat → Bool} {k : Nat} (h1 : K k ≠ 0 → a (zN (F k)) = a' (zN (F k)) ∧ b (zN (F k)) = b' (zN (F k))) (h2 : zTwo (K k) = true → a (zN (G k)) = a' (zN (G k)) ∧ b (zN (G k)) = b' (zN (G k))) : mvA K F G a b k = mvA K F G a' b' k := by
  unfold mvA
  congr 1
  · by_cases hk : K k = 0
    · simp [hk]
    · rw [(h1 hk).1]
  · cases ht : zTwo (K k) with
    | false => rfl
    | true => rw [(h2 ht).1, (h2 ht).2]
/-- a line that can be laid -/
def zAb (s : zS) (v : Int32) (s' : zS) (k : Nat) : Prop := bt v k = true ∧ ¬ bt (s' 6 4) k = true ∧ ∀ j, j < 16 → zUb (s 2) (s 3) (s 4) false k j → bt (s' 6 4) j = true
theorem zCI_step {n : Nat} {s s' : zS} {v : Int32} {L z z1 k : Nat} (hw : zWf (s 2) (s 3) (s 4)) (hI : zCI s v L z z1 s') (hk : k < 16) (hL : bt v L = true) (ha : zAb s v s' k) : ∃ s1 s2, m_X4_place n (nI k) s' = some (0, s1) ∧ m_X4_direct n (nI k) s1 = some (0, s2) ∧ zCI s v L z (z1 + 1) s2 := by
  obtain ⟨i1, i2, i3, i4, i5, i6, i7, i8, i9, i10, i11⟩ := hI
  obtain ⟨a1, a2, a3⟩ := ha
  obtain ⟨s1, e1, o1, fr1, r5, r6, ok, oo, pl⟩ := p_place (n := n) i2 hk a2
  have w1 : zWf (s1 2) (s1 3) (s1 4) := by
    rw [fr1 2 (by decide) (by decide), fr1 3 (by decide) (by decide), fr1 4 (by decide) (by decide), i1 2 (by decide) (by decide), i1 3 (by decide) (by decide), i1 4 (by decide) (by decide)]; exact hw
  obtain ⟨s2, e2, fr2, q3, q4, b5, b6⟩ := p_direct (n := n) hk w1
  rw [fr1 2 (by decide) (by decide), fr1 3 (by decide) (by decide), fr1 4 (by decide) (by decide), i1 2 (by decide) (by decide), i1 3 (by decide) (by decide), i1 4 (by decide) (by decide), r5, r6] at b5 b6
  have z2 : ∀ p, zo s2 p = zo s1 p := fun p => by unfold zo; rw [fr2 9 (by decide)]
  obtain ⟨u1, u2, u3, u4, u5⟩ := i2
  have ne : ∀ p, p < z1 → zo s' p ≠ k := fun p hp e => a2 ((u5 k (by omega)).mpr ⟨p, hp, e⟩)
  -- bits of lines other than k stay
  have s5 : ∀ j, j < 32 → j ≠ k → bt (s2 6 5) j = bt (s' 6 5) j := fun j hj h => by rw [b5 j hj]; simp [h]
  have s6 : ∀ j, j < 32 → j ≠ k → bt (s2 6 6) j = bt (s' 6 6) j := fun j hj h => by rw [b6 j hj]; simp [h]
  have k5 : bt (s' 6 5) k = false := by
    cases h : bt (s' 6 5) k with
    | false => rfl
    | true => obtain ⟨p, _, hp, e⟩ := i8 k (by omega) h; exact absurd e (ne p hp)
  have k6 : bt (s' 6 6) k = false := by
    cases h : bt (s' 6 6) k with
    | false => rfl
    | true => obtain ⟨p, _, hp, e⟩ := i9 k (by omega) h; exact absurd e (ne p hp)
  -- a line whose uses are laid before k
  have same : ∀ m, m < 16 → (∀ j, j < 16 → zUb (s 2) (s 3) (s 4) false m j → j ≠ k) → mvA (s 2) (s 3) (s 4) (bt (s2 6 5)) (bt (s2 6 6)) m = mvA (s 2) (s 3) (s 4) (bt (s' 6 5)) (bt (s' 6 6)) m ∧ mvA (s 2) (s 3) (s 4) (bt (s2 6 6)) (bt (s2 6 5)) m = mvA (s 2) (s 3) (s 4) (bt (s' 6 6)) (bt (s' 6 5)) m := by
    intro m hm hu
    have f1 : s 2 m ≠ 0 → bt (s2 6 5) (zN (s 3 m)) = bt (s' 6 5) (zN (s 3 m)) ∧ bt (s2 6 6) (zN (s 3 m)) = bt (s' 6 6) (zN (s 3 m)) := fun h => by
      have hf := (zWf_f hw hm h).1
      have := hu _ hf (Or.inl ⟨h, rfl⟩)
      exact ⟨s5 _ (by omega) this, s6 _ (by omega) this⟩
    have g1 : zTwo (s 2 m) = true → bt (s2 6 5) (zN (s 4 m)) = bt (s' 6 5) (zN (s 4 m)) ∧ bt (s2 6 6) (zN (s 4 m)) = bt (s' 6 6) (zN (s 4 m)) := fun h => by
      have hf := (zWf_g hw hm h).1
      have := hu _ hf (Or.inr ⟨h, rfl, rfl⟩)
      exact ⟨s5 _ (by omega) this, s6 _ (by omega) this⟩
    exact ⟨mvA_c f1 g1, mvA_c (fun h => (f1 h).symm) (fun h => (g1 h).symm)⟩
  have kL : L ≠ k := fun e => ne z i3 (i4.trans e)
  refine ⟨s1, s2, e1, e2, fun c h6 h9 => by rw [fr2 c h6, fr1 c h6 h9, i1 c h6 h9], ?_, by omega, by rw [z2, oo z i3]; exact i4, fun p hp => by rw [z2, oo p (by omega)]; exact i5 p hp, fun p h1 h2 => ?_, fun p h1 h2 j hj hu => ?_, fun j hj hb => ?_, fun j hj hb => ?_, ?_, fun p h1 h2 => ?_⟩
  · obtain ⟨v1, v2, v3, v4, v5⟩ := o1
    refine ⟨by rw [q3]; exact v1, v2, fun p hp => by rw [z2, fr2 9 (by decide)]; exact v3 p hp, fun p q hp hq => by rw [z2, z2]; exact v4 p q hp hq, fun j hj => ?_⟩
    rw [q4, v5 j hj]
    simp only [z2]
  · rw [z2]
    by_cases e : p = z1
    · rw [e, ok]; exact a1
    · rw [oo p (by omega)]; exact i6 p h1 (by omega)
  · rw [z2] at hu
    by_cases e : p = z1
    · rw [e, ok] at hu
      obtain ⟨q, hq, eq⟩ := (u5 j (by omega)).mp (a3 j hj hu)
      exact ⟨q, by omega, by rw [z2, oo q hq]; exact eq⟩
    · rw [oo p (by omega)] at hu
      obtain ⟨q, hq, eq⟩ := i7 p h1 (by omega) j hj hu
      exact ⟨q, hq, by rw [z2, oo q (by omega)]; exact eq⟩
  · by_cases e : j = k
    · exact ⟨z1, by omega, by omega, by rw [z2, ok]; exact e.symm⟩
    · rw [s5 j hj e] at hb
      obtain ⟨p, h1, h2, h3⟩ := i8 j hj hb
      exact ⟨p, h1, by omega, by rw [z2, oo p h2]; exact h3⟩
  · by_cases e : j = k
    · exact ⟨z1, by omega, by omega, by rw [z2, ok]; exact e.symm⟩
    · rw [s6 j hj e] at hb
      obtain ⟨p, h1, h2, h3⟩ := i9 j hj hb
      exact ⟨p, h1, by omega, by rw [z2, oo p h2]; exact h3⟩
  · rw [b5 L (by have := (u3 z i3).1; omega), i10]; rfl
  · rw [z2]
    by_cases e : p = z1
    · rw [e, ok]
      have hu : ∀ j, j < 16 → zUb (s 2) (s 3) (s 4) false k j → j ≠ k := fun j hj hu e => a2 (by rw [← e]; exact a3 j hj hu)
      obtain ⟨t1, t2⟩ := same k hk hu
      rw [t1, t2, b5 k (by omega), b6 k (by omega), k5, k6]
      simp
    · have hp : p < z1 := by omega
      rw [oo p hp]
      have hm := (u3 p hp).1
      have hu : ∀ j, j < 16 → zUb (s 2) (s 3) (s 4) false (zo s' p) j → j ≠ k := fun j hj hu e => by
        obtain ⟨q, hq, eq⟩ := i7 p h1 hp j hj hu
        exact ne q (by omega) (eq.trans e)
      obtain ⟨t1, t2⟩ := same _ hm hu
      rw [t1, t2, s5 _ (by omega) (ne p hp), s6 _ (by omega) (ne p hp)]
      exact i11 p h1 hp
/-- the rounds: at the end nothing more can be laid -/
theorem zCI_rounds {n : Nat} (hn : 100 ≤ n) {s s' : zS} {v : Int32} {L z z1 : Nat} (hw : zWf (s 2) (s 3) (s 4)) (hv : ∀ j, j < 32 → bt v j = true → j < 16) (hL : bt v L = true) (hI : zCI s v L z z1 s') (h1 : z1 = z + 1) : ∃ s2 z2, zCI s v L z z2 s2 ∧ (∀ k, k < 16 → ¬ zAb s v s2 k) ∧ m_X4_placeCircle_j47 n n v (nI L) 0 s' = if (v &&& (s2 6 4 ^^^ (-1 : Int32))) = 0 then m_X4_placeCircle_j137 n (nI L) 1 s2 else m_X4_placeCircle_j137 n (nI L) 0 s2 := by
  obtain ⟨s2, f1, hf1, ⟨z2, hz2, hd⟩, e1⟩ := for_up (fun f t s' => m_X4_placeCircle_j47 n f v (nI L) (nI t) s') (fun t s' => ∃ z1, zCI s v L z z1 s' ∧ (z + 1 + t ≤ z1 ∨ ∀ k, k < 16 → ¬ zAb s v s' k)) 16 (by
    intro f t s' ht ⟨z1, hz1, hd⟩
    obtain ⟨s3, f3, hf3, ⟨z3, hz3, hle, hb, hst⟩, e3⟩ := for_up (fun f9 i s9 => m_X4_placeCircle_j57 (m_X4_placeCircle_j47 n f) n f9 v (nI L) (nI t) (nI i) s9) (fun i s9 => ∃ z9, zCI s v L z z9 s9 ∧ z1 ≤ z9 ∧ (z1 < z9 ∨ ∀ k, k < i → ¬ zAb s v s9 k) ∧ ((∀ k, k < 16 → ¬ zAb s v s' k) → ∀ k, k < 16 → ¬ zAb s v s9 k)) 16 (by
      intro f9 i s9 hi ⟨z9, hz9, hle, hb, hst⟩
      have c2 : ∀ c, c ≠ 6 → c ≠ 9 → s9 c = s c := hz9.1
      have hu9 : zUs s9 i = zUse (s 2 i) (s 3 i) (s 4 i) false := by unfold zUs; rw [c2 2 (by decide) (by decide), c2 3 (by decide) (by decide), c2 4 (by decide) (by decide)]
      have hun : bt (v &&& (s9 6 4 ^^^ (-1 : Int32))) i = true ↔ bt v i = true ∧ ¬ bt (s9 6 4) i = true := by
        rw [b_and, b_xor, b_m1 i (by omega)]; simp
      have hus : ((zUs s9 i) &&& (s9 6 4 ^^^ (-1 : Int32))) = 0 ↔ ∀ j, j < 16 → zUb (s 2) (s 3) (s 4) false i j → bt (s9 6 4) j = true := by
        rw [andn_0, hu9]
        constructor
        · intro h j hj hu
          exact h j (by omega) ((use_bt hw hi false (by omega)).mpr hu)
        · intro h j hj hb
          have hu := (use_bt hw hi false hj).mp hb
          exact h j (zUb_lt hw hi hu) hu
      by_cases ha : zAb s v s9 i
      · obtain ⟨s1, s2, p1, p2, p3⟩ := zCI_step (n := n) hw hz9 hi hL ha
        refine ⟨s2, ⟨z9 + 1, p3, by omega, Or.inl (by omega), fun q => absurd ha (hst q i hi)⟩, ?_⟩
        show m_X4_placeCircle_j57 _ n (f9 + 1) v (nI L) (nI t) (nI i) s9 = m_X4_placeCircle_j57 _ n f9 v (nI L) (nI t) (nI (i + 1)) s2
        rw [m_X4_placeCircle_j57, if_neg (n16 hi), p_has, zBd_e, has_n (by omega), if_pos (hun.mpr ⟨ha.1, ha.2.1⟩), if_neg (by decide), p_uses_n hi, zBd_e, if_pos (hus.mpr ha.2.2), p1, zBd_e, p2, zBd_e, zLt_e, nI_s]
      · refine ⟨s9, ⟨z9, hz9, hle, ?_, hst⟩, ?_⟩
        · rcases hb with hb | hb
          · exact Or.inl hb
          · refine Or.inr (fun k hk => ?_)
            by_cases e : k = i
            · rw [e]; exact ha
            · exact hb k (by omega)
        · show m_X4_placeCircle_j57 _ n (f9 + 1) v (nI L) (nI t) (nI i) s9 = m_X4_placeCircle_j57 _ n f9 v (nI L) (nI t) (nI (i + 1)) s9
          by_cases hb : bt (v &&& (s9 6 4 ^^^ (-1 : Int32))) i = true
          · have hx : ¬ ((zUs s9 i) &&& (s9 6 4 ^^^ (-1 : Int32))) = 0 := fun q => ha ⟨(hun.mp hb).1, (hun.mp hb).2, hus.mp q⟩
            rw [m_X4_placeCircle_j57, if_neg (n16 hi), p_has, zBd_e, has_n (by omega), if_pos hb, if_neg (by decide), p_uses_n hi, zBd_e, if_neg hx, zLt_e, nI_s]
          · rw [m_X4_placeCircle_j57, if_neg (n16 hi), p_has, zBd_e, has_n (by omega), if_neg hb, if_pos rfl, zLt_e, nI_s]) 16 n 0 s' rfl (by omega) ⟨z1, hz1, Nat.le_refl _, Or.inr (fun k h => absurd h (Nat.not_lt_zero k)), fun h => h⟩
    obtain ⟨f3, rfl⟩ : ∃ g, f3 = g + 1 := ⟨f3 - 1, by omega⟩
    refine ⟨s3, ⟨z3, hz3, ?_⟩, ?_⟩
    · rcases hd with hd | hd
      · rcases hb with hb | hb
        · exact Or.inl (by omega)
        · exact Or.inr hb
      · exact Or.inr (hst hd)
    · show m_X4_placeCircle_j47 n (f + 1) v (nI L) (nI t) s' = m_X4_placeCircle_j47 n f v (nI L) (nI (t + 1)) s3
      rw [m_X4_placeCircle_j47, if_neg (n16 ht)]
      refine (show _ = _ from e3).trans ?_
      show m_X4_placeCircle_j57 _ n (f3 + 1) v (nI L) (nI t) (nI 16) s3 = _
      rw [m_X4_placeCircle_j57, if_pos n16e, zLt_e, nI_s]) 16 n 0 s' rfl (by omega) ⟨z1, hI, Or.inl (by omega)⟩
  obtain ⟨f1, rfl⟩ : ∃ g, f1 = g + 1 := ⟨f1 - 1, by omega⟩
  refine ⟨s2, z2, hz2, ?_, ?_⟩
  · rcases hd with hd | hd
    · have := hz2.2.1.2.1
      omega
    · exact hd
  · refine (show _ = _ from e1).trans ?_
    show m_X4_placeCircle_j47 n (f1 + 1) v (nI L) (nI 16) s2 = _
    rw [m_X4_placeCircle_j47, if_pos n16e]
end PK
end
section
section PL
/-! the class places a circle, or finds it not allowed -/
theorem zn_L {L : Nat} (hL : L < 16) : ¬ nI L = (-1 : Int32) := by
  intro e
  exact nI_pos (n := L) (by omega) (by rw [e]; decide)
theorem p_placeCircle {n z : Nat} (hn : 100 ≤ n) {v : Int32} {s : zS} (hw : zWf (s 2) (s 3) (s 4)) (ho : zOrd s z) (hv : ∀ j, j < 32 → bt v j = true → j < 16) (hd : ∀ j, j < 32 → bt v j = true → ¬ bt (s 6 4) j = true) (hc : ∀ i, i < 16 → bt v i = true → ∀ j, j < 16 → zUb (s 2) (s 3) (s 4) false i j → bt v j = true ∨ bt (s 6 4) j = true) : ∃ r s', m_X4_placeCircle n v s = some (r, s') ∧ (∀ c, c ≠ 6 → c ≠ 9 → s' c = s c) ∧ ((r = 0 ∧ zCB (s 2) (s 3) (s 4) v) ∨ (r = 1 ∧ ∃ L, zCG (s 2) (s 3) (s 4) v L ∧ ∃ z', zOrd s' z' ∧ z < z' ∧ zo s' z = L ∧ (∀ p, p < z → zo s' p = zo s p) ∧ (∀ j, j < 32 → bt (s' 6 4) j = (bt (s 6 4) j || bt v j)) ∧ (∀ p, z ≤ p → p < z' → bt v (zo s' p) = true) ∧ ∀ p, z < p → p < z' → ∀ j, j < 16 → zUb (s 2) (s 3) (s 4) false (zo s' p) j → ∃ q, q < p ∧ zo s' q = j)) := by
  rcases (p_onlyLimit hn v s).symm with ⟨hno, e⟩ | ⟨L, hL, e⟩
  · refine ⟨0, s, ?_, fun _ _ _ => rfl, Or.inl ⟨rfl, Or.inl hno⟩⟩
    unfold m_X4_placeCircle
    rw [e, zBd_e, if_pos rfl]; rfl
  have hL16 := hL.1
  obtain ⟨bL, kL⟩ := (hL.2 L hL16).mpr rfl
  have hKL : s 2 L ≠ 0 := by rw [kL]; decide
  have hTL : zTwo (s 2 L) = true := by rw [kL]; decide
  obtain ⟨f1, f2⟩ := zWf_f hw hL16 hKL
  obtain ⟨g1, g2⟩ := zWf_g hw hL16 hTL
  by_cases hF : bt v (zN (s 3 L)) = true
  · refine ⟨0, s, ?_, fun _ _ _ => rfl, Or.inl ⟨rfl, Or.inr ⟨L, hL, Or.inl hF⟩⟩⟩
    unfold m_X4_placeCircle
    rw [e, zBd_e, if_neg (zn_L hL16), p_first, zBd_e, a16 hL16, p_has, zBd_e, f2, has_n (by omega), if_pos hF, if_neg (by decide)]; rfl
  -- the limit is laid first
  obtain ⟨s1, e1, o1, fr1, r5, r6, ok, oo, pl⟩ := p_place (n := n) (s := zU (zU s 6 5 (zBit (nI L))) 6 6 0) (z := z) (k := L) (by
    obtain ⟨u1, u2, u3, u4, u5⟩ := ho
    have z9 : ∀ p, zo (zU (zU s 6 5 (zBit (nI L))) 6 6 0) p = zo s p := fun p => by unfold zo; rw [zU_ne (show 9 ≠ 6 by decide), zU_ne (show 9 ≠ 6 by decide)]
    refine ⟨by rw [zU_nj (show 3 ≠ 6 by decide), zU_nj (show 3 ≠ 5 by decide)]; exact u1, u2, fun p hp => ?_, fun p q hp hq => ?_, fun j hj => ?_⟩
    · rw [z9, zU_ne (show 9 ≠ 6 by decide), zU_ne (show 9 ≠ 6 by decide)]; exact u3 p hp
    · rw [z9, z9]; exact u4 p q hp hq
    · rw [zU_nj (show 4 ≠ 6 by decide), zU_nj (show 4 ≠ 5 by decide)]; simp only [z9]; exact u5 j hj) hL16 (by rw [zU_nj (show 4 ≠ 6 by decide), zU_nj (show 4 ≠ 5 by decide)]; exact hd L (by omega) bL)
  rw [zU_nj (show 5 ≠ 6 by decide), zU_eq] at r5
  rw [zU_eq] at r6
  rw [zU_nj (show 4 ≠ 6 by decide), zU_nj (show 4 ≠ 5 by decide)] at pl
  have z9 : ∀ p, zo (zU (zU s 6 5 (zBit (nI L))) 6 6 0) p = zo s p := fun p => by unfold zo; rw [zU_ne (show 9 ≠ 6 by decide), zU_ne (show 9 ≠ 6 by decide)]
  simp only [z9] at oo
  have fr : ∀ c, c ≠ 6 → c ≠ 9 → s1 c = s c := fun c h6 h9 => by rw [fr1 c h6 h9, zU_ne h6, zU_ne h6]
  have hI : zCI s v L z (z + 1) s1 := by
    refine ⟨fr, o1, by omega, ok, oo, fun p h1 h2 => ?_, fun p h1 h2 => by omega, fun j hj hb => ?_, fun j hj hb => ?_, ?_, fun p h1 h2 => by omega⟩
    · rw [show p = z by omega, ok]; exact bL
    · rw [r5, bt_bit (by omega) hj] at hb
      exact ⟨z, Nat.le_refl _, by omega, by rw [ok]; exact (of_decide_eq_true hb).symm⟩
    · rw [r6, b_0] at hb; cases hb
    · rw [r5, bt_bit (by omega) (by omega)]; simp
  obtain ⟨s2, z2, hI2, hst, e2⟩ := zCI_rounds hn hw hv bL hI rfl
  have run : m_X4_placeCircle n v s = if (v &&& (s2 6 4 ^^^ (-1 : Int32))) = 0 then m_X4_placeCircle_j137 n (nI L) 1 s2 else m_X4_placeCircle_j137 n (nI L) 0 s2 := by
    rw [← e2]
    unfold m_X4_placeCircle
    rw [e, zBd_e, if_neg (zn_L hL16), p_first, zBd_e, a16 hL16, p_has, zBd_e, f2, has_n (by omega), if_neg hF, if_pos rfl, p_bit, zBd_e, zLt_e, zLt_e, e1, zBd_e]
  obtain ⟨i1, i2, i3, i4, i5, i6, i7, i8, i9, i10, i11⟩ := hI2
  obtain ⟨u1, u2, u3, u4, u5⟩ := i2
  -- what is placed now
  have pl2 : ∀ j, j < 32 → bt (s2 6 4) j = true → bt (s 6 4) j = true ∨ bt v j = true := by
    intro j hj hb
    obtain ⟨p, hp, ep⟩ := (u5 j hj).mp hb
    rcases Nat.lt_or_ge p z with h | h
    · exact Or.inl ((ho.2.2.2.2 j hj).mpr ⟨p, h, by rw [← i5 p h]; exact ep⟩)
    · exact Or.inr (ep ▸ i6 p h hp)
  have pl3 : ∀ j, j < 32 → bt (s 6 4) j = true → bt (s2 6 4) j = true := by
    intro j hj hb
    obtain ⟨p, hp, ep⟩ := (ho.2.2.2.2 j hj).mp hb
    exact (u5 j hj).mpr ⟨p, by omega, by rw [i5 p hp]; exact ep⟩
  have fr2 : ∀ c, c ≠ 6 → c ≠ 9 → s2 c = s c := i1
  rcases (Classical.em ((v &&& (s2 6 4 ^^^ (-1 : Int32))) = 0)).symm with hall | hall
  · -- a line that was never laid: a circle without the limit
    refine ⟨0, s2, by rw [run, if_neg hall]; rfl, fr2, Or.inl ⟨rfl, Or.inr ⟨L, hL, Or.inr (Or.inl ?_)⟩⟩⟩
    have hex : ∃ k, k < 32 ∧ bt v k = true ∧ ¬ bt (s2 6 4) k = true := by
      refine Classical.byContradiction (fun hn => hall (andn_0.mpr (fun j hj hb => ?_)))
      refine Classical.byContradiction (fun hq => hn ⟨j, hj, hb, hq⟩)
    obtain ⟨k0, hk0, bk0, nk0⟩ := hex
    have hLp : bt (s2 6 4) L = true := (u5 L (by omega)).mpr ⟨z, i3, i4⟩
    obtain ⟨k, ⟨hk1, hk2, hk3⟩, hk4⟩ := zTC_cyc (u := zwo (s 2) (s 3) (s 4) L) (fun k => k < 16 ∧ bt v k = true ∧ ¬ bt (s2 6 4) k = true) (by
      intro k ⟨h1, h2, h3⟩
      refine ⟨h1, ?_⟩
      have hex : ∃ j, j < 16 ∧ zUb (s 2) (s 3) (s 4) false k j ∧ ¬ bt (s2 6 4) j = true := by
        refine Classical.byContradiction (fun hn => hst k h1 ⟨h2, h3, fun j hj hu => ?_⟩)
        exact Classical.byContradiction (fun hq => hn ⟨j, hj, hu, hq⟩)
      obtain ⟨j, hj, hu, hnp⟩ := hex
      refine ⟨j, ⟨hj, ?_, hnp⟩, ?_⟩
      · rcases hc k h1 h2 j hj hu with h | h
        · exact h
        · exact absurd (pl3 j (by omega) h) hnp
      · have hkL : ¬ k = L := fun e => h3 (e ▸ hLp)
        unfold zwo
        rw [decide_eq_false hkL]
        exact (use_bt hw h1 false (by omega)).mpr hu) ⟨hv k0 hk0 bk0, bk0, nk0⟩
    exact ⟨k, hk1, hk2, hk4⟩
  · have hvp : ∀ j, j < 32 → bt v j = true → bt (s2 6 4) j = true := andn_0.mp hall
    -- where a line of the circle lies
    have pos : ∀ k, k < 16 → bt v k = true → ∃ p, z ≤ p ∧ p < z2 ∧ zo s2 p = k := by
      intro k hk hb
      obtain ⟨p, hp, ep⟩ := (u5 k (by omega)).mp (hvp k (by omega) hb)
      refine ⟨p, ?_, hp, ep⟩
      rcases Nat.lt_or_ge p z with h | h
      · refine absurd ((ho.2.2.2.2 k (by omega)).mpr ⟨p, h, by rw [← i5 p h]; exact ep⟩) (hd k (by omega) hb)
      · exact h
    have hnv : ∀ p, p < z → ¬ bt v (zo s2 p) = true := by
      intro p hp hb
      have := (u3 p (by omega)).1
      exact hd _ (by omega) hb ((ho.2.2.2.2 _ (by omega)).mpr ⟨p, hp, (i5 p hp).symm⟩)
    have rank : ∃ rk : Nat → Nat, ∀ k, k < 16 → rk k ≤ 16 ∧ ∀ p, z ≤ p → p < z2 → zo s2 p = k → rk k = p - z := by
      refine Classical.skolem (p := fun k r => k < 16 → r ≤ 16 ∧ ∀ p, z ≤ p → p < z2 → zo s2 p = k → r = p - z) |>.mp (fun k => ?_)
      by_cases hk : ∃ p, z ≤ p ∧ p < z2 ∧ zo s2 p = k
      · obtain ⟨p, h1, h2, h3⟩ := hk
        refine ⟨p - z, fun _ => ⟨by omega, fun q g1 g2 g3 => ?_⟩⟩
        rw [u4 p q h2 g2 (h3.trans g3.symm)]
      · exact ⟨0, fun _ => ⟨Nat.zero_le _, fun q g1 g2 g3 => absurd ⟨q, g1, g2, g3⟩ hk⟩⟩
    obtain ⟨rk, hrk⟩ := rank
    have hRk : zRk (s 2) (s 3) (s 4) v L (bt (s2 6 5)) (bt (s2 6 6)) := by
      refine ⟨rk, ?_, fun k hk => (hrk k hk).1, fun k hk hb hkL j hj hu hbj => ?_, i10, ?_, fun k hk hnb => ?_, fun k hk hb hkL => ?_⟩
      · rw [(hrk L hL16).2 z (Nat.le_refl _) i3 i4]; omega
      · obtain ⟨p, p1, p2, p3⟩ := pos k hk hb
        obtain ⟨q, q1, q2, q3⟩ := pos j hj hbj
        rw [(hrk k hk).2 p p1 p2 p3, (hrk j hj).2 q q1 q2 q3]
        have hpz : z < p := by
          rcases Nat.lt_or_ge z p with h | h
          · exact h
          · exact absurd (by rw [← p3, show p = z by omega]; exact i4) hkL
        obtain ⟨q', hq', eq'⟩ := i7 p hpz p2 j hj (p3 ▸ hu)
        have := u4 q q' q2 (by omega) (q3.trans eq'.symm)
        omega
      · cases h : bt (s2 6 6) L with
        | false => rfl
        | true =>
          obtain ⟨p, h1, h2, h3⟩ := i9 L (by omega) h
          have := u4 p z h2 i3 (h3.trans i4.symm)
          omega
      · constructor
        · cases h : bt (s2 6 5) k with
          | false => rfl
          | true => obtain ⟨p, h1, h2, h3⟩ := i8 k (by omega) h; exact absurd (h3 ▸ i6 p h1 h2) hnb
        · cases h : bt (s2 6 6) k with
          | false => rfl
          | true => obtain ⟨p, h1, h2, h3⟩ := i9 k (by omega) h; exact absurd (h3 ▸ i6 p (by omega) h2) hnb
      · obtain ⟨p, p1, p2, p3⟩ := pos k hk hb
        have hpz : z < p := by
          rcases Nat.lt_or_ge z p with h | h
          · exact h
          · exact absurd (by rw [← p3, show p = z by omega]; exact i4) hkL
        rw [← p3]
        exact i11 p hpz p2
    have k2 : s2 4 = s 4 := fr2 4 (by decide) (by decide)
    have e137 : m_X4_placeCircle_j137 n (nI L) 1 s2 = if (s2 6 5 &&& s2 6 6) = 0 then (if bt (s2 6 6) (zN (s 4 L)) = true then some (1, s2) else some (0, s2)) else some (0, s2) := by
      unfold m_X4_placeCircle_j137
      rw [if_neg (by decide)]
      by_cases q : (s2 6 5 &&& s2 6 6) = 0
      · rw [if_pos q, if_pos q, p_second, zBd_e, a16 hL16, p_has, zBd_e, k2, g2, has_n (by omega), ← g2]
        by_cases q2 : bt (s2 6 6) (zN (s 4 L)) = true
        · rw [if_pos q2, if_neg (by decide), if_pos q2]; rfl
        · rw [if_neg q2, if_pos rfl, if_neg q2]; rfl
      · rw [if_neg q, if_neg q]; rfl
    have hconf : (s2 6 5 &&& s2 6 6) = 0 ↔ ∀ k, k < 16 → ¬ (bt (s2 6 5) k = true ∧ bt (s2 6 6) k = true) := by
      rw [and_0]
      constructor
      · intro h k hk; exact h k (by omega)
      · intro h k hk hb
        obtain ⟨p, h1, h2, h3⟩ := i8 k hk hb.1
        exact h k (hv k hk (h3 ▸ i6 p h1 h2)) hb
    rw [if_pos hall, e137] at run
    by_cases hf : zFall (s 4) L (bt (s2 6 5)) (bt (s2 6 6))
    · rw [if_pos (hconf.mpr hf.1), if_pos hf.2] at run
      refine ⟨1, s2, run, fr2, Or.inr ⟨rfl, L, ⟨hL, hF, _, _, hRk, hf⟩, z2, ⟨u1, u2, u3, u4, u5⟩, i3, i4, i5, fun j hj => ?_, i6, i7⟩⟩
      cases h : bt (s2 6 4) j with
      | true => rcases pl2 j hj h with h | h <;> simp [h]
      | false =>
        cases h1 : bt (s 6 4) j with
        | true => rw [pl3 j hj h1] at h; cases h
        | false =>
          cases h2 : bt v j with
          | true => rw [hvp j hj h2] at h; cases h
          | false => rfl
    · refine ⟨0, s2, ?_, fr2, Or.inl ⟨rfl, Or.inr ⟨L, hL, Or.inr (Or.inr ⟨_, _, hRk, hf⟩)⟩⟩⟩
      rw [run]
      by_cases q1 : (s2 6 5 &&& s2 6 6) = 0
      · rw [if_pos q1]
        by_cases q2 : bt (s2 6 6) (zN (s 4 L)) = true
        · exact absurd ⟨hconf.mp q1, q2⟩ hf
        · rw [if_neg q2]
      · rw [if_neg q1]
end PL
end
section
section PM
/-! the class makes its plan -/
def zCir (r : Nat → Nat → Bool) (i : Nat) (v : Int32) : Prop := ∀ j, j < 32 → bt v j = (decide (j < 16) && (r i j && r j i))
theorem zCir_eq {r : Nat → Nat → Bool} {i : Nat} {v w : Int32} (h1 : zCir r i v) (h2 : zCir r i w) : v = w := b_ext (fun j hj => by rw [h1 j hj, h2 j hj])
def zMI (b s' : zS) (r : Nat → Nat → Bool) (z : Nat) : Prop := (∀ c, c ≠ 6 → c ≠ 9 → s' c = b c) ∧ zOrd s' z ∧ (∀ i, i < 16 → bt (s' 6 4) i = true → ∀ j, j < 16 → r i j = true → r j i = true → bt (s' 6 4) j = true) ∧ (∀ p, p < z → (b 2 (zo s' p) ≠ 0 → ∃ q, q < p ∧ zo s' q = zN (b 3 (zo s' p))) ∧ (zTwo (b 2 (zo s' p)) = true → ¬ (b 2 (zo s' p) = 8 ∧ r (zo s' p) (zo s' p) = true) → ∃ q, q < p ∧ zo s' q = zN (b 4 (zo s' p)))) ∧ (∀ p, p < z → b 2 (zo s' p) = 8 → r (zo s' p) (zo s' p) = true → ∃ c, 0 < c ∧ p + c ≤ z ∧ (∀ q, p ≤ q → q < p + c → r (zo s' p) (zo s' q) = true ∧ r (zo s' q) (zo s' p) = true) ∧ ∀ j, j < 16 → r (zo s' p) j = true → r j (zo s' p) = true → ∃ q, p ≤ q ∧ q < p + c ∧ zo s' q = j) ∧ ∀ i, i < 16 → bt (s' 6 4) i = true → r i i = true → ∃ v L, zCir r i v ∧ zCG (b 2) (b 3) (b 4) v L
def zRdy (s' : zS) (r : Nat → Nat → Bool) (k : Nat) : Prop := ¬ bt (s' 6 4) k = true ∧ ∀ j, j < 16 → r k j = true → ¬ zGr r k j = true → bt (s' 6 4) j = true
/-- what is known of the base -/
def zBs (b : zS) (r : Nat → Nat → Bool) : Prop := zWf (b 2) (b 3) (b 4) ∧ (∀ i, i < 16 → ∀ j, j < 32 → bt (b 7 i) j = r i j) ∧ (∀ i, i < 16 → ∀ j, j < 32 → bt (b 8 i) j = zGr r i j) ∧ (∀ i m j, m < 16 → r i m = true → r m j = true → r i j = true) ∧ (∀ i j, i < 16 → r i j = true → j < 16) ∧ ∀ i j, i < 16 → zUb (b 2) (b 3) (b 4) false i j → r i j = true
theorem rdy_iff {n k : Nat} {b s' : zS} {r : Nat → Nat → Bool} (hB : zBs b r) (hf : ∀ c, c ≠ 6 → c ≠ 9 → s' c = b c) (hk : k < 16) : ∃ v, m_X4_isReady n (nI k) s' = some (v, s') ∧ ((v = 1 ∧ zRdy s' r k) ∨ (v = 0 ∧ ¬ zRdy s' r k)) := by
  obtain ⟨hw, h7, h8, ht, hl, hu⟩ := hB
  have e : (zHas (s' 6 4) (nI k) = 0 ∧ ((zAt s' 7 16 (nI k) &&& (zAt s' 8 16 (nI k) ^^^ (-1 : Int32))) &&& ((s' 6 4) ^^^ (-1 : Int32))) = 0) ↔ zRdy s' r k := by
    unfold zRdy
    rw [a16 hk, a16 hk, hf 7 (by decide) (by decide), hf 8 (by decide) (by decide), has_n (by omega), andn_0]
    refine and_congr ?_ ?_
    · by_cases h : bt (s' 6 4) k = true
      · simp [h]
      · simp [h]
    · constructor
      · intro h j hj h1 h2
        refine h j (by omega) ?_
        rw [b_and, b_xor, b_m1 j (by omega), h7 k hk j (by omega), h8 k hk j (by omega), h1]
        simpa using h2
      · intro h j hj hb
        rw [b_and, b_xor, b_m1 j hj, h7 k hk j hj, h8 k hk j hj] at hb
        obtain ⟨q1, q2⟩ := Bool.and_eq_true_iff.mp hb
        exact h j (hl k j hk q1) q1 (by simpa using q2)
  rw [p_isReady]
  by_cases h : zRdy s' r k
  · exact ⟨1, by rw [if_pos (e.mpr h)], Or.inl ⟨rfl, h⟩⟩
  · exact ⟨0, by rw [if_neg (fun q => h (e.mp q))], Or.inr ⟨rfl, h⟩⟩
theorem circ_iff {n k : Nat} {b s' : zS} {r : Nat → Nat → Bool} (hB : zBs b r) (hf : ∀ c, c ≠ 6 → c ≠ 9 → s' c = b c) (hk : k < 16) : m_X4_isCircular n (nI k) s' = some (if r k k = true then 1 else 0, s') := by
  rw [p_isCircular, a16 hk, hf 7 (by decide) (by decide), has_n (by omega), hB.2.1 k hk k (by omega)]
theorem zMI_one {n k z : Nat} {b s' : zS} {r : Nat → Nat → Bool} (hB : zBs b r) (hI : zMI b s' r z) (hk : k < 16) (hr : zRdy s' r k) (hnc : ¬ r k k = true) : ∃ s2, m_X4_place n (nI k) s' = some (0, s2) ∧ zMI b s2 r (z + 1) := by
  obtain ⟨hw, h7, h8, ht, hl, hu⟩ := hB
  obtain ⟨i1, i2, i3, i4, i5, i6⟩ := hI
  obtain ⟨s2, e2, o2, fr2, _, _, ok, oo, pl⟩ := p_place (n := n) i2 hk hr.1
  have pb : ∀ j, j < 16 → bt (s2 6 4) j = true → bt (s' 6 4) j = true ∨ j = k := by
    intro j hj hb
    rw [pl j (by omega)] at hb
    rcases Bool.or_eq_true_iff.mp hb with h | h
    · exact Or.inl h
    · exact Or.inr (of_decide_eq_true h)
  have up : ∀ j, j < 16 → bt (s' 6 4) j = true → bt (s2 6 4) j = true := fun j hj h => by rw [pl j (by omega), h]; rfl
  have bef : ∀ j, j < 16 → r k j = true → ∃ q, q < z ∧ zo s2 q = j := by
    intro j hj hrj
    have hng : ¬ zGr r k j = true := by
      intro hg
      unfold zGr at hg
      rcases Bool.or_eq_true_iff.mp hg with h | h
      · rw [of_decide_eq_true h] at hrj; exact hnc hrj
      · obtain ⟨_, h⟩ := Bool.and_eq_true_iff.mp h
        obtain ⟨h1, h2⟩ := Bool.and_eq_true_iff.mp h
        exact hnc (ht k j k hj h1 h2)
    obtain ⟨q, hq, eq⟩ := (i2.2.2.2.2 j (by omega)).mp (hr.2 j hj hrj hng)
    exact ⟨q, hq, by rw [oo q hq]; exact eq⟩
  refine ⟨s2, e2, fun c h6 h9 => by rw [fr2 c h6 h9, i1 c h6 h9], o2, fun i hi hb j hj hij hji => ?_, fun p hp => ?_, fun p hp hp8 hpc => ?_, fun i hi hb hc => ?_⟩
  · rcases pb i hi hb with h | h
    · exact up j hj (i3 i hi h j hj hij hji)
    · subst h; exact absurd (ht i j i hj hij hji) hnc
  · by_cases e : p = z
    · subst e
      rw [ok]
      exact ⟨fun h => bef _ (zWf_f hw hk h).1 (hu k _ hk (Or.inl ⟨h, rfl⟩)), fun h _ => bef _ (zWf_g hw hk h).1 (hu k _ hk (Or.inr ⟨h, rfl, rfl⟩))⟩
    · have hp' : p < z := by omega
      rw [oo p hp']
      obtain ⟨a1, a2⟩ := i4 p hp'
      exact ⟨fun h => let ⟨q, hq, eq⟩ := a1 h; ⟨q, hq, by rw [oo q (by omega)]; exact eq⟩, fun h h' => let ⟨q, hq, eq⟩ := a2 h h'; ⟨q, hq, by rw [oo q (by omega)]; exact eq⟩⟩
  · by_cases e : p = z
    · subst e; rw [ok] at hpc; exact absurd hpc hnc
    · have hp' : p < z := by omega
      rw [oo p hp'] at hp8 hpc ⊢
      obtain ⟨c, c0, c1, c2, c3⟩ := i5 p hp' hp8 hpc
      refine ⟨c, c0, by omega, fun q h1 h2 => by rw [oo q (by omega)]; exact c2 q h1 h2, fun j hj h1 h2 => ?_⟩
      obtain ⟨q, q1, q2, q3⟩ := c3 j hj h1 h2
      exact ⟨q, q1, q2, by rw [oo q (by omega)]; exact q3⟩
  · rcases pb i hi hb with h | h
    · exact i6 i hi h hc
    · subst h; exact absurd hc hnc
theorem zMI_circ {n k z : Nat} (hn : 100 ≤ n) {b s' : zS} {r : Nat → Nat → Bool} (hB : zBs b r) (hI : zMI b s' r z) (hk : k < 16) (hr : zRdy s' r k) (hc : r k k = true) : ∃ w s2, m_X4_placeCircle n (b 8 k) s' = some (w, s2) ∧ (∀ c, c ≠ 6 → c ≠ 9 → s2 c = b c) ∧ ((w = 0 ∧ ∃ v, zCir r k v ∧ zCB (b 2) (b 3) (b 4) v) ∨ (w = 1 ∧ ∃ z2, z < z2 ∧ zMI b s2 r z2)) := by
  obtain ⟨hw, h7, h8, ht, hl, hu⟩ := hB
  obtain ⟨i1, i2, i3, i4, i5, i6⟩ := hI
  have c2 := i1 2 (by decide) (by decide)
  have c3 := i1 3 (by decide) (by decide)
  have c4 := i1 4 (by decide) (by decide)
  have hv : zCir r k (b 8 k) := by
    intro j hj
    rw [h8 k hk j hj]
    unfold zGr
    by_cases e : j = k
    · subst e; simp [hk, hc]
    · simp [e]
  have hvb : ∀ j, j < 32 → (bt (b 8 k) j = true ↔ j < 16 ∧ r k j = true ∧ r j k = true) := by
    intro j hj
    rw [hv j hj]; simp [and_assoc]
  have nd : ∀ j, j < 32 → bt (b 8 k) j = true → ¬ bt (s' 6 4) j = true := by
    intro j hj hb hp
    obtain ⟨j16, h1, h2⟩ := (hvb j hj).mp hb
    exact hr.1 (i3 j j16 hp k hk h2 h1)
  obtain ⟨w, s2, e, fr, res⟩ := p_placeCircle (n := n) (z := z) hn (v := b 8 k) (s := s') (by rw [c2, c3, c4]; exact hw) i2 (fun j hj hb => ((hvb j hj).mp hb).1) nd (by
    intro i hi hb j hj hub
    rw [c2, c3, c4] at hub
    obtain ⟨_, q1, q2⟩ := (hvb i (by omega)).mp hb
    have hkj : r k j = true := ht k i j hi q1 (hu i j hi hub)
    by_cases hg : zGr r k j = true
    · left; rw [h8 k hk j (by omega)]; exact hg
    · right; exact hr.2 j hj hkj hg)
  rw [c2, c3, c4] at res
  refine ⟨w, s2, e, fun c h6 h9 => by rw [fr c h6 h9, i1 c h6 h9], ?_⟩
  rcases res with ⟨w0, hbad⟩ | ⟨w1, L, hG, z2, o2, hz, oL, oo, pl, mem, bef⟩
  · exact Or.inl ⟨w0, _, hv, hbad⟩
  · refine Or.inr ⟨w1, z2, hz, ?_⟩
    have hL16 := hG.1.1
    obtain ⟨bL, kL⟩ := (hG.1.2 L hL16).mpr rfl
    obtain ⟨_, rkL, rLk⟩ := (hvb L (by omega)).mp bL
    have pb : ∀ j, j < 16 → bt (s2 6 4) j = true → bt (s' 6 4) j = true ∨ bt (b 8 k) j = true := by
      intro j hj hb
      rw [pl j (by omega)] at hb
      exact Bool.or_eq_true_iff.mp hb
    have up : ∀ j, j < 16 → bt (s' 6 4) j = true → bt (s2 6 4) j = true := fun j hj h => by rw [pl j (by omega), h]; rfl
    have upv : ∀ j, j < 16 → bt (b 8 k) j = true → bt (s2 6 4) j = true := fun j hj h => by rw [pl j (by omega), h]; simp
    have same : ∀ i, i < 16 → bt (b 8 k) i = true → zCir r i (b 8 k) := by
      intro i hi hb j hj
      obtain ⟨_, q1, q2⟩ := (hvb i (by omega)).mp hb
      rw [hv j hj]
      by_cases hj16 : j < 16
      · have e1 : (r k j && r j k) = (r i j && r j i) := by
          have a1 : r k j = true → r i j = true := ht i k j hk q2
          have a2 : r i j = true → r k j = true := ht k i j hi q1
          have a3 : r j k = true → r j i = true := fun h => ht j k i hk h q1
          have a4 : r j i = true → r j k = true := fun h => ht j i k hi h q2
          rw [show r k j = r i j from Bool.eq_iff_iff.mpr ⟨a1, a2⟩, show r j k = r j i from Bool.eq_iff_iff.mpr ⟨a3, a4⟩]
        rw [e1]
      · simp [hj16]
    refine ⟨fun c h6 h9 => by rw [fr c h6 h9, i1 c h6 h9], o2, fun i hi hb j hj hij hji => ?_, fun p hp => ?_, fun p hp hp8 hpc => ?_, fun i hi hb hci => ?_⟩
    · rcases pb i hi hb with h | h
      · exact up j hj (i3 i hi h j hj hij hji)
      · refine upv j hj ?_
        rw [same i hi h j (by omega)]; simp [hj, hij, hji]
    · rcases Nat.lt_or_ge p z with hpz | hpz
      · rw [oo p hpz]
        obtain ⟨a1, a2⟩ := i4 p hpz
        exact ⟨fun h => let ⟨q, hq, eq⟩ := a1 h; ⟨q, hq, by rw [oo q (by omega)]; exact eq⟩, fun h h' => let ⟨q, hq, eq⟩ := a2 h h'; ⟨q, hq, by rw [oo q (by omega)]; exact eq⟩⟩
      · have hm := (o2.2.2.1 p hp).1
        by_cases e : p = z
        · subst e
          rw [oL]
          refine ⟨fun h => ?_, fun h h' => ?_⟩
          · have hf := (zWf_f hw hL16 h).1
            have hkF : r k (zN (b 3 L)) = true := ht k L _ hL16 rkL (hu L _ hL16 (Or.inl ⟨h, rfl⟩))
            have hp := hr.2 _ hf hkF (by rw [← h8 k hk _ (by omega)]; exact hG.2.1)
            obtain ⟨q, hq, eq⟩ := (i2.2.2.2.2 _ (by omega)).mp hp
            exact ⟨q, hq, by rw [oo q hq]; exact eq⟩
          · exact absurd ⟨kL, ht L k L hk rLk rkL⟩ h'
        · have hb := bef p (by omega) hp
          exact ⟨fun h => hb _ (zWf_f hw hm h).1 (Or.inl ⟨h, rfl⟩), fun h _ => hb _ (zWf_g hw hm h).1 (Or.inr ⟨h, rfl, rfl⟩)⟩
    · rcases Nat.lt_or_ge p z with hpz | hpz
      · rw [oo p hpz] at hp8 hpc ⊢
        obtain ⟨c, c0, c1, c2, c3⟩ := i5 p hpz hp8 hpc
        refine ⟨c, c0, by omega, fun q h1 h2 => by rw [oo q (by omega)]; exact c2 q h1 h2, fun j hj h1 h2 => ?_⟩
        obtain ⟨q, q1, q2, q3⟩ := c3 j hj h1 h2
        exact ⟨q, q1, q2, by rw [oo q (by omega)]; exact q3⟩
      · have hm := (o2.2.2.1 p hp).1
        have hpL : zo s2 p = L := (hG.1.2 _ hm).mp ⟨mem p hpz hp, hp8⟩
        have hpz' : p = z := o2.2.2.2.1 p z hp hz (hpL.trans oL.symm)
        subst hpz'
        rw [oL]
        refine ⟨z2 - p, by omega, by omega, fun q h1 h2 => ?_, fun j hj h1 h2 => ?_⟩
        · have hq2 : q < z2 := by omega
          have hq := (o2.2.2.1 q hq2).1
          obtain ⟨_, q1, q2⟩ := (hvb _ (by omega)).mp (mem q h1 hq2)
          exact ⟨ht L k _ hk rLk q1, ht _ k L hk q2 rkL⟩
        · have hb : bt (b 8 k) j = true := (hvb j (by omega)).mpr ⟨hj, ht k L j hL16 rkL h1, ht j L k hL16 h2 rLk⟩
          obtain ⟨q, hq, eq⟩ := (o2.2.2.2.2 j (by omega)).mp (upv j hj hb)
          refine ⟨q, ?_, by omega, eq⟩
          rcases Nat.lt_or_ge q p with h | h
          · exact absurd ((i2.2.2.2.2 j (by omega)).mpr ⟨q, h, by rw [← oo q h]; exact eq⟩) (nd j (by omega) hb)
          · exact h
    · rcases pb i hi hb with h | h
      · exact i6 i hi h hci
      · exact ⟨b 8 k, L, same i hi h, hG⟩
theorem zRdy_ex {b s' : zS} {r : Nat → Nat → Bool} {z : Nat} (hB : zBs b r) (_hI : zMI b s' r z) {k : Nat} (hk : k < 16) (hnp : ¬ bt (s' 6 4) k = true) : ∃ i, i < 16 ∧ zRdy s' r i := by
  obtain ⟨hw, h7, h8, ht, hl, hu⟩ := hB
  refine Classical.byContradiction (fun hno => ?_)
  obtain ⟨i, ⟨hi, _⟩, hc⟩ := zTC_cyc (u := fun i j => r i j && !r j i && decide (j < 16)) (fun i => i < 16 ∧ ¬ bt (s' 6 4) i = true) (by
    intro i ⟨hi, hip⟩
    refine ⟨hi, ?_⟩
    refine Classical.byContradiction (fun hn => hno ⟨i, hi, hip, fun j hj hij hg => ?_⟩)
    refine Classical.byContradiction (fun hjp => hn ⟨j, ⟨hj, hjp⟩, ?_⟩)
    have : ¬ r j i = true := fun h => hg (by unfold zGr; simp [hj, hij, h])
    simp [hij, this, hj]) ⟨hk, hnp⟩
  have key := zTC_min (u := fun i j => r i j && !r j i && decide (j < 16)) (fun i j => r i j = true ∧ ¬ r j i = true ∧ j < 16) (fun i j h => by
    simp only [Bool.and_eq_true, Bool.not_eq_true', decide_eq_true_eq] at h
    exact ⟨h.1.1, by simp [h.1.2], h.2⟩) (fun i m j hm h1 h2 => ⟨ht i m j hm h1.1 h2.1, fun h => h1.2.1 (ht m j i h2.2.2 h2.1 h), h2.2.2⟩) hc
  exact key.2.1 key.1
theorem b_all {x : Int32} (h : ∀ j, j < 32 → (bt x j = true ↔ j < 16)) : x = 65535 := b_ext (fun j hj => by
  rw [b_65535]
  cases hb : bt x j with
  | true => exact (decide_eq_true ((h j hj).mp hb)).symm
  | false => exact (decide_eq_false (fun q => by rw [(h j hj).mpr q] at hb; cases hb)).symm)
theorem zMI_rounds {n : Nat} (hn : 100 ≤ n) {b s' : zS} {r : Nat → Nat → Bool} (hB : zBs b r) (hI : zMI b s' r 0) : (∃ s2, m_X4_make_j21 n n 0 s' = some (1, s2) ∧ zMI b s2 r 16) ∨ ∃ s2, m_X4_make_j21 n n 0 s' = some (0, s2) ∧ (∀ c, c ≠ 6 → c ≠ 9 → s2 c = b c) ∧ ∃ i v, i < 16 ∧ r i i = true ∧ zCir r i v ∧ zCB (b 2) (b 3) (b 4) v := by
  have fin : ∀ s2 z, zMI b s2 r z → (∀ j, j < 16 → bt (s2 6 4) j = true) → z = 16 := by
    intro s2 z h2 hall
    obtain ⟨_, ⟨u1, u2, u3, u4, u5⟩, _⟩ := h2
    refine Classical.byContradiction (fun hne => ?_)
    have hlt : z < 16 := by omega
    -- z lines can't be 16
    have hx : ∃ o : Nat → Nat, ∀ j, j < 16 → o j < z ∧ zo s2 (o j) = j := by
      refine (Classical.skolem (p := fun j p => j < 16 → p < z ∧ zo s2 p = j)).mp (fun j => ?_)
      by_cases hj : j < 16
      · obtain ⟨p, hp, e⟩ := (u5 j (by omega)).mp (hall j hj)
        exact ⟨p, fun _ => ⟨hp, e⟩⟩
      · exact ⟨0, fun h => absurd h hj⟩
    obtain ⟨o, ho⟩ := hx
    obtain ⟨p, hp, e⟩ := pig16 (o := o) (fun j hj => by have := (ho j hj).1; omega) (fun p q hp hq e => by rw [← (ho p hp).2, ← (ho q hq).2, e]) hlt
    have := (ho p hp).1
    omega
  have key := for_or (fun f t s' => m_X4_make_j21 n f (nI t) s') (fun t s' => ∃ z, zMI b s' r z ∧ (t ≤ z ∨ ∀ j, j < 16 → bt (s' 6 4) j = true)) 16 (fun x => (∃ s2, x = some (1, s2) ∧ zMI b s2 r 16) ∨ ∃ s2, x = some (0, s2) ∧ (∀ c, c ≠ 6 → c ≠ 9 → s2 c = b c) ∧ ∃ i v, i < 16 ∧ r i i = true ∧ zCir r i v ∧ zCB (b 2) (b 3) (b 4) v) (by
    intro f t s1 ht ⟨z1, hz1, hd⟩
    have hnb : ∀ j, j < 32 → bt (s1 6 4) j = true → j < 16 := by
      intro j hj hb
      obtain ⟨p, hp, e⟩ := (hz1.2.1.2.2.2.2 j hj).mp hb
      rw [← e]; exact (hz1.2.1.2.2.1 p hp).1
    by_cases hall : ∀ j, j < 16 → bt (s1 6 4) j = true
    · refine Or.inr (Or.inl ⟨s1, ?_, ?_⟩)
      · show m_X4_make_j21 n (f + 1) (nI t) s1 = _
        rw [m_X4_make_j21, if_neg (n16 ht), if_pos (b_all (fun j hj => ⟨hnb j hj, hall j⟩))]; rfl
      · have := fin s1 z1 hz1 hall
        rw [this] at hz1; exact hz1
    have hne : ¬ s1 6 4 = 65535 := fun e => hall (fun j hj => by rw [e, b_65535]; simp [hj])
    have hex : ∃ k, k < 16 ∧ ¬ bt (s1 6 4) k = true := by
      refine Classical.byContradiction (fun hn => hall (fun j hj => ?_))
      exact Classical.byContradiction (fun hq => hn ⟨j, hj, hq⟩)
    obtain ⟨k, hk, hkp⟩ := hex
    obtain ⟨k1, hk1, hkr⟩ := zRdy_ex hB hz1 hk hkp
    have inner := for_or (fun f9 i s9 => m_X4_make_j38 (m_X4_make_j21 n f) n f9 (nI t) (nI i) s9) (fun i s9 => ∃ z9, zMI b s9 r z9 ∧ (z1 < z9 ∨ (s9 = s1 ∧ z9 = z1 ∧ ∀ k, k < i → ¬ zRdy s1 r k))) 16 (fun x => ∃ s2, x = some (0, s2) ∧ (∀ c, c ≠ 6 → c ≠ 9 → s2 c = b c) ∧ ∃ i v, i < 16 ∧ r i i = true ∧ zCir r i v ∧ zCB (b 2) (b 3) (b 4) v) (by
      intro f9 i s9 hi ⟨z9, hz9, hb⟩
      obtain ⟨w, e1, hw⟩ := rdy_iff (n := n) hB hz9.1 hi
      rcases hw with ⟨rfl, hrd⟩ | ⟨rfl, hrd⟩
      · have nz : z1 ≤ z9 := by rcases hb with h | ⟨_, h, _⟩ <;> omega
        by_cases hc : r i i = true
        · obtain ⟨w, s2, e2, fr2, hres⟩ := zMI_circ hn hB hz9 hi hrd hc
          have e8 : s9 8 i = b 8 i := by rw [hz9.1 8 (by decide) (by decide)]
          rcases hres with ⟨rfl, v, hv, hbad⟩ | ⟨rfl, z2, hz2, hI2⟩
          · refine Or.inr ⟨s2, ?_, fr2, i, v, hi, hc, hv, hbad⟩
            show m_X4_make_j38 _ n (f9 + 1) (nI t) (nI i) s9 = _
            rw [m_X4_make_j38, if_neg (n16 hi), e1, zBd_e, if_neg (by decide), circ_iff hB hz9.1 hi, zBd_e, if_pos hc, if_neg (by decide)]
            unfold m_X4_make_j68
            rw [e1, zBd_e, if_neg (by decide), p_groupOf, zBd_e, a16 hi, e8, e2, zBd_e, if_pos rfl]; rfl
          · refine Or.inl ⟨s2, ⟨z2, hI2, Or.inl (by omega)⟩, ?_⟩
            show m_X4_make_j38 _ n (f9 + 1) (nI t) (nI i) s9 = _
            rw [m_X4_make_j38, if_neg (n16 hi), e1, zBd_e, if_neg (by decide), circ_iff hB hz9.1 hi, zBd_e, if_pos hc, if_neg (by decide)]
            unfold m_X4_make_j68
            rw [e1, zBd_e, if_neg (by decide), p_groupOf, zBd_e, a16 hi, e8, e2, zBd_e, if_neg (by decide), zLt_e, nI_s]
        · obtain ⟨s2, e2, hI2⟩ := zMI_one (n := n) hB hz9 hi hrd hc
          refine Or.inl ⟨s2, ⟨z9 + 1, hI2, Or.inl (by omega)⟩, ?_⟩
          show m_X4_make_j38 _ n (f9 + 1) (nI t) (nI i) s9 = _
          rw [m_X4_make_j38, if_neg (n16 hi), e1, zBd_e, if_neg (by decide), circ_iff hB hz9.1 hi, zBd_e, if_neg hc, if_pos rfl, e2, zBd_e, zLt_e, nI_s]
      · refine Or.inl ⟨s9, ⟨z9, hz9, ?_⟩, ?_⟩
        · rcases hb with h | ⟨h1, h2, h3⟩
          · exact Or.inl h
          · refine Or.inr ⟨h1, h2, fun k hk => ?_⟩
            by_cases e : k = i
            · rw [e, ← h1]; exact hrd
            · exact h3 k (by omega)
        · show m_X4_make_j38 _ n (f9 + 1) (nI t) (nI i) s9 = _
          rw [m_X4_make_j38, if_neg (n16 hi), e1, zBd_e, if_pos rfl]
          unfold m_X4_make_j68
          rw [e1, zBd_e, if_pos rfl, zLt_e, nI_s]) 16 n 0 s1 rfl (by omega) ⟨z1, hz1, Or.inr ⟨rfl, rfl, fun k h => absurd h (Nat.not_lt_zero k)⟩⟩
    rcases inner with ⟨s2, f2, hf2, ⟨z2, hz2, hb⟩, e2⟩ | hq
    · obtain ⟨f2, rfl⟩ : ∃ g, f2 = g + 1 := ⟨f2 - 1, by omega⟩
      refine Or.inl ⟨s2, ⟨z2, hz2, ?_⟩, ?_⟩
      · rcases hb with h | ⟨_, _, h⟩
        · rcases hd with hd | hd
          · exact Or.inl (by omega)
          · exact absurd hd hall
        · exact absurd hkr (h k1 hk1)
      · show m_X4_make_j21 n (f + 1) (nI t) s1 = _
        rw [m_X4_make_j21, if_neg (n16 ht), if_neg hne]
        refine (show _ = _ from e2).trans ?_
        show m_X4_make_j38 _ n (f2 + 1) (nI t) (nI 16) s2 = _
        rw [m_X4_make_j38, if_pos n16e, zLt_e, nI_s]
    · refine Or.inr (Or.inr ?_)
      show ∃ s2, m_X4_make_j21 n (f + 1) (nI t) s1 = some (0, s2) ∧ _
      rw [m_X4_make_j21, if_neg (n16 ht), if_neg hne]
      exact hq) 16 n 0 s' rfl (by omega) ⟨0, hI, Or.inl (Nat.le_refl _)⟩
  rcases key with ⟨s2, f2, hf2, ⟨z2, hz2, hd⟩, e2⟩ | hq
  · obtain ⟨f2, rfl⟩ : ∃ g, f2 = g + 1 := ⟨f2 - 1, by omega⟩
    refine Or.inl ⟨s2, ?_, ?_⟩
    · refine (show _ = _ from e2).trans ?_
      show m_X4_make_j21 n (f2 + 1) (nI 16) s2 = _
      rw [m_X4_make_j21, if_pos n16e]; rfl
    · have : z2 = 16 := by
        rcases hd with h | h
        · have := hz2.2.1.2.1; omega
        · exact fin s2 z2 hz2 h
      rw [this] at hz2; exact hz2
  · exact hq
/-- the closure of what lines use -/
def zR (K F G : Nat → Int32) : Nat → Nat → Bool := zTC (fun i j => bt (zUse (K i) (F i) (G i) false) j)
theorem zR_u {K F G : Nat → Int32} (hw : zWf K F G) {i j : Nat} (hi : i < 16) (h : zUb K F G false i j) : zR K F G i j = true := zTC_of ((use_bt hw hi false (by have := zUb_lt hw hi h; omega)).mpr h)
theorem zR_lt {K F G : Nat → Int32} (hw : zWf K F G) {i j : Nat} (hi : i < 16) (h : zR K F G i j = true) : j < 16 := by
  have one : ∀ i j, i < 16 → bt (zUse (K i) (F i) (G i) false) j = true → j < 16 := by
    intro i j hi hb
    rcases Nat.lt_or_ge j 32 with hj | hj
    · exact zUb_lt hw hi ((use_bt hw hi false hj).mp hb)
    · rw [b_big hj] at hb; cases hb
  rcases zTC_last h with h | ⟨m, hm, _, h⟩
  · exact one i j hi h
  · exact one m j hm h
/-- what stands when the plan is made -/
def zPlan (b s : zS) : Prop := (∀ i, i < 16 → ∀ j, j < 32 → bt (s 7 i) j = zR (b 2) (b 3) (b 4) i j) ∧ (∀ i, i < 16 → ∀ j, j < 32 → bt (s 8 i) j = zGr (zR (b 2) (b 3) (b 4)) i j) ∧ zMI (fun c => if c = 7 then s 7 else if c = 8 then s 8 else b c) s (zR (b 2) (b 3) (b 4)) 16
theorem p_make {n : Nat} (hn : 100 ≤ n) {b : zS} (hw : zWf (b 2) (b 3) (b 4)) : (∃ s, m_X4_make n b = some (1, s) ∧ (∀ c, c ≠ 6 → c ≠ 7 → c ≠ 8 → c ≠ 9 → s c = b c) ∧ zPlan b s) ∨ ∃ s, m_X4_make n b = some (0, s) ∧ (∀ c, c ≠ 6 → c ≠ 7 → c ≠ 8 → c ≠ 9 → s c = b c) ∧ ∃ i v, i < 16 ∧ zR (b 2) (b 3) (b 4) i i = true ∧ zCir (zR (b 2) (b 3) (b 4)) i v ∧ zCB (b 2) (b 3) (b 4) v := by
  obtain ⟨s1, e1, fr1, r1⟩ := p_findReach hn b
  have r1' : ∀ i, i < 16 → ∀ j, j < 32 → bt (s1 7 i) j = zR (b 2) (b 3) (b 4) i j := r1
  obtain ⟨s2, e2, fr2, r2⟩ := p_findGroups hn s1 r1'
  have run : m_X4_make n b = m_X4_make_j21 n n 0 (zU (zU s2 6 3 0) 6 4 0) := by
    unfold m_X4_make
    rw [e1, zBd_e, e2, zBd_e, zLt_e, zLt_e]
  have q2 : s2 2 = b 2 := by rw [fr2 2 (by decide), fr1 2 (by decide)]
  have q3 : s2 3 = b 3 := by rw [fr2 3 (by decide), fr1 3 (by decide)]
  have q4 : s2 4 = b 4 := by rw [fr2 4 (by decide), fr1 4 (by decide)]
  have q7 : s2 7 = s1 7 := fr2 7 (by decide)
  have hB : zBs s2 (zR (b 2) (b 3) (b 4)) := by
    unfold zBs
    rw [q2, q3, q4, q7]
    exact ⟨hw, r1', r2, fun i m j hm h1 h2 => zTC_tr hm h1 h2, fun i j hi h => zR_lt hw hi h, fun i j hi h => zR_u hw hi h⟩
  have hI : zMI s2 (zU (zU s2 6 3 0) 6 4 0) (zR (b 2) (b 3) (b 4)) 0 := by
    refine ⟨fun c h6 _ => by rw [zU_ne h6, zU_ne h6], ⟨by rw [zU_nj (by decide), zU_eq]; rfl, by omega, fun p hp => by omega, fun p q hp => by omega, fun j hj => ?_⟩, fun i hi hb => ?_, fun p hp => by omega, fun p hp => by omega, fun i hi hb => ?_⟩
    · rw [zU_eq, b_0]
      exact ⟨fun h => (by cases h), fun ⟨p, hp, _⟩ => (by omega)⟩
    · rw [zU_eq, b_0] at hb; cases hb
    · rw [zU_eq, b_0] at hb; cases hb
  rw [run]
  rcases zMI_rounds hn hB hI with ⟨s, e, h⟩ | ⟨s, e, fr, i, v, hi, hc, hv, hbad⟩
  · refine Or.inl ⟨s, e, fun c h6 h7 h8 h9 => by rw [h.1 c h6 h9, fr2 c h8, fr1 c h7], ?_, ?_, ?_⟩
    · rw [h.1 7 (by decide) (by decide), q7]; exact r1'
    · rw [h.1 8 (by decide) (by decide)]; exact r2
    · have e9 : ∀ c, c ≠ 6 → c ≠ 9 → (fun c => if c = 7 then s 7 else if c = 8 then s 8 else b c) c = s2 c := by
        intro c h6 h9
        by_cases a : c = 7
        · simp only [a, if_pos]; exact h.1 7 (by decide) (by decide)
        · by_cases a8 : c = 8
          · simp only [a8, if_neg (show ¬ (8 : Nat) = 7 by decide), if_pos]; exact h.1 8 (by decide) (by decide)
          · simp only [if_neg a, if_neg a8]; rw [fr2 c a8, fr1 c a]
      obtain ⟨m1, m2, m3, m4, m5, m6⟩ := h
      rw [q2, q3] at m4
      rw [q4] at m4
      rw [q2] at m5
      rw [q2, q3, q4] at m6
      exact ⟨fun c h6 h9 => (m1 c h6 h9).trans (e9 c h6 h9).symm, m2, m3, m4, m5, m6⟩
  · rw [q2, q3, q4] at hbad
    exact Or.inr ⟨s, e, fun c h6 h7 h8 h9 => by rw [fr c h6 h9, fr2 c h8, fr1 c h7], i, v, hi, hc, hv, hbad⟩
end PM
end
section
section PFa
/-! the reference asks whether a circle falls -/
def zM : Bool → Bool → Int32
  | false, false => 0
  | true, false => 1
  | false, true => 2
  | true, true => 3
theorem zM_or : ∀ a b c d, zM a b ||| zM c d = zM (a || c) (b || d) := by decide +kernel
theorem zM_turn : ∀ a b, ((zM a b &&& (1 : Int32)) * (2 : Int32)) + (zM a b >>> ((1 : Int32) &&& 31)) = zM b a := by decide +kernel
theorem zM_2 : ∀ a b, zM a b = 2 ↔ (a = false ∧ b = true) := by decide +kernel
theorem zM_3 : ∀ a b, zM a b = 3 ↔ (a = true ∧ b = true) := by decide +kernel
/-- rank and ways, with the rank laid open -/
def zRkD (K F G : Nat → Int32) (v : Int32) (L : Nat) (A B : Nat → Bool) (rk : Nat → Nat) : Prop := rk L = 0 ∧ (∀ k, k < 16 → rk k ≤ 16) ∧ (∀ k, k < 16 → bt v k = true → k ≠ L → ∀ j, j < 16 → zUb K F G false k j → bt v j = true → rk j < rk k) ∧ A L = true ∧ B L = false ∧ (∀ k, k < 16 → ¬ bt v k = true → A k = false ∧ B k = false) ∧ ∀ k, k < 16 → bt v k = true → k ≠ L → A k = mvA K F G A B k ∧ B k = mvA K F G B A k
def zFP (K F G : Nat → Int32) (v : Int32) (L t i : Nat) (A B : Nat → Bool) : Prop := ∀ A0 B0 rk, zRkD K F G v L A0 B0 rk → A L = true ∧ (∀ k, k < 16 → (A k = true → A0 k = true) ∧ (B k = true → B0 k = true)) ∧ ∀ k, k < 16 → bt v k = true → (rk k ≤ t ∨ (rk k ≤ t + 1 ∧ k < i)) → (A0 k = true → A k = true) ∧ (B0 k = true → B k = true)
theorem zFP_step {K F G : Nat → Int32} (hw : zWf K F G) {v : Int32} {L t i : Nat} {A B A1 B1 A2 B2 : Nat → Bool} (hi : i < 16) (hv : bt v i = true) (hiL : i ≠ L) (h : zFP K F G v L t i A B) (hA1 : A1 = fun k => if k = i then (A i || (decide (K i ≠ 0) && A (zN (F i)))) else A k) (hB1 : B1 = fun k => if k = i then (B i || (decide (K i ≠ 0) && B (zN (F i)))) else B k) (hA2 : A2 = fun k => if k = i then (A1 i || (zTwo (K i) && (if K i = 2 then B1 (zN (G i)) else A1 (zN (G i))))) else A1 k) (hB2 : B2 = fun k => if k = i then (B1 i || (zTwo (K i) && (if K i = 2 then A1 (zN (G i)) else B1 (zN (G i))))) else B1 k) : zFP K F G v L t (i + 1) A2 B2 := by
  intro A0 B0 rk hD
  obtain ⟨h1, h2, h3⟩ := h A0 B0 rk hD
  obtain ⟨d1, d2, d3, d4, d5, d6, d7⟩ := hD
  obtain ⟨eA, eB⟩ := d7 i hi hv hiL
  have mA : ∀ k, A k = true → A1 k = true := by
    intro k hk
    rw [hA1]
    show (if k = i then _ else _) = true
    by_cases e : k = i
    · rw [if_pos e, ← e, hk]; rfl
    · rw [if_neg e]; exact hk
  have mB : ∀ k, B k = true → B1 k = true := by
    intro k hk
    rw [hB1]
    show (if k = i then _ else _) = true
    by_cases e : k = i
    · rw [if_pos e, ← e, hk]; rfl
    · rw [if_neg e]; exact hk
  have mA2 : ∀ k, A1 k = true → A2 k = true := by
    intro k hk
    rw [hA2]
    show (if k = i then _ else _) = true
    by_cases e : k = i
    · rw [if_pos e, ← e, hk]; rfl
    · rw [if_neg e]; exact hk
  have mB2 : ∀ k, B1 k = true → B2 k = true := by
    intro k hk
    rw [hB2]
    show (if k = i then _ else _) = true
    by_cases e : k = i
    · rw [if_pos e, ← e, hk]; rfl
    · rw [if_neg e]; exact hk
  have sA1 : ∀ k, k < 16 → A1 k = true → A0 k = true := by
    intro k hk hb
    by_cases e : k = i
    · subst e
      rw [hA1] at hb
      replace hb : (A k || (decide (K k ≠ 0) && A (zN (F k)))) = true := by simpa using hb
      rcases Bool.or_eq_true_iff.mp hb with hb | hb
      · exact (h2 k hk).1 hb
      · obtain ⟨b1, b2⟩ := Bool.and_eq_true_iff.mp hb
        have hne := of_decide_eq_true b1
        rw [eA]; unfold mvA
        rw [b1, (h2 _ (zWf_f hw hk hne).1).1 b2]; rfl
    · rw [hA1] at hb
      exact (h2 k hk).1 (by simpa [e] using hb)
  have sB1 : ∀ k, k < 16 → B1 k = true → B0 k = true := by
    intro k hk hb
    by_cases e : k = i
    · subst e
      rw [hB1] at hb
      replace hb : (B k || (decide (K k ≠ 0) && B (zN (F k)))) = true := by simpa using hb
      rcases Bool.or_eq_true_iff.mp hb with hb | hb
      · exact (h2 k hk).2 hb
      · obtain ⟨b1, b2⟩ := Bool.and_eq_true_iff.mp hb
        have hne := of_decide_eq_true b1
        rw [eB]; unfold mvA
        rw [b1, (h2 _ (zWf_f hw hk hne).1).2 b2]; rfl
    · rw [hB1] at hb
      exact (h2 k hk).2 (by simpa [e] using hb)
  refine ⟨mA2 L (mA L h1), fun k hk => ⟨fun hb => ?_, fun hb => ?_⟩, fun k hk hbv hr => ?_⟩
  · by_cases e : k = i
    · subst e
      rw [hA2] at hb
      replace hb : (A1 k || (zTwo (K k) && (if K k = 2 then B1 (zN (G k)) else A1 (zN (G k))))) = true := by simpa using hb
      rcases Bool.or_eq_true_iff.mp hb with hb | hb
      · exact sA1 k hk hb
      · obtain ⟨b1, b2⟩ := Bool.and_eq_true_iff.mp hb
        have hg := (zWf_g hw hk b1).1
        rw [eA]; unfold mvA
        rw [b1]
        by_cases h2 : K k = 2
        · rw [if_pos h2] at b2 ⊢
          rw [sB1 _ hg b2]; simp
        · rw [if_neg h2] at b2 ⊢
          rw [sA1 _ hg b2]; simp
    · rw [hA2] at hb
      exact sA1 k hk (by simpa [e] using hb)
  · by_cases e : k = i
    · subst e
      rw [hB2] at hb
      replace hb : (B1 k || (zTwo (K k) && (if K k = 2 then A1 (zN (G k)) else B1 (zN (G k))))) = true := by simpa using hb
      rcases Bool.or_eq_true_iff.mp hb with hb | hb
      · exact sB1 k hk hb
      · obtain ⟨b1, b2⟩ := Bool.and_eq_true_iff.mp hb
        have hg := (zWf_g hw hk b1).1
        rw [eB]; unfold mvA
        rw [b1]
        by_cases h2 : K k = 2
        · rw [if_pos h2] at b2 ⊢
          rw [sA1 _ hg b2]; simp
        · rw [if_neg h2] at b2 ⊢
          rw [sB1 _ hg b2]; simp
    · rw [hB2] at hb
      exact sB1 k hk (by simpa [e] using hb)
  · by_cases e : k = i
    · subst e
      have hrk : rk k ≤ t + 1 := by rcases hr with h | ⟨h, _⟩ <;> omega
      -- what the line uses is complete
      have cu : ∀ j, j < 16 → zUb K F G false k j → (A0 j = true → A j = true) ∧ (B0 j = true → B j = true) := by
        intro j hj hu
        by_cases hbj : bt v j = true
        · have := d3 k hk hbv hiL j hj hu hbj
          exact h3 j hj hbj (Or.inl (by omega))
        · obtain ⟨q1, q2⟩ := d6 j hj hbj
          rw [q1, q2]; exact ⟨fun h => (by cases h), fun h => (by cases h)⟩
      have aF : K k ≠ 0 → (A0 (zN (F k)) = true → A1 k = true) ∧ (B0 (zN (F k)) = true → B1 k = true) := by
        intro hne
        have := cu _ (zWf_f hw hk hne).1 (Or.inl ⟨hne, rfl⟩)
        refine ⟨fun h => ?_, fun h => ?_⟩
        · rw [hA1]; simp [hne, this.1 h]
        · rw [hB1]; simp [hne, this.2 h]
      have aG : zTwo (K k) = true → (A0 (zN (G k)) = true → A1 (zN (G k)) = true) ∧ (B0 (zN (G k)) = true → B1 (zN (G k)) = true) := by
        intro ht
        have := cu _ (zWf_g hw hk ht).1 (Or.inr ⟨ht, rfl, rfl⟩)
        exact ⟨fun h => mA _ (this.1 h), fun h => mB _ (this.2 h)⟩
      refine ⟨fun h0 => ?_, fun h0 => ?_⟩
      · rw [eA] at h0; unfold mvA at h0
        rcases Bool.or_eq_true_iff.mp h0 with h0 | h0
        · obtain ⟨b1, b2⟩ := Bool.and_eq_true_iff.mp h0
          exact mA2 k ((aF (of_decide_eq_true b1)).1 b2)
        · obtain ⟨b1, b2⟩ := Bool.and_eq_true_iff.mp h0
          rw [hA2]
          by_cases h2 : K k = 2
          · rw [if_pos h2] at b2
            simp only [if_pos, if_pos h2, b1, (aG b1).2 b2]; simp
          · rw [if_neg h2] at b2
            simp only [if_pos, if_neg h2, b1, (aG b1).1 b2]; simp
      · rw [eB] at h0; unfold mvA at h0
        rcases Bool.or_eq_true_iff.mp h0 with h0 | h0
        · obtain ⟨b1, b2⟩ := Bool.and_eq_true_iff.mp h0
          exact mB2 k ((aF (of_decide_eq_true b1)).2 b2)
        · obtain ⟨b1, b2⟩ := Bool.and_eq_true_iff.mp h0
          rw [hB2]
          by_cases h2 : K k = 2
          · rw [if_pos h2] at b2
            simp only [if_pos, if_pos h2, b1, (aG b1).1 b2]; simp
          · rw [if_neg h2] at b2
            simp only [if_pos, if_neg h2, b1, (aG b1).2 b2]; simp
    · have := h3 k hk hbv (by rcases hr with h | ⟨h, h'⟩; exact Or.inl h; exact Or.inr ⟨h, by omega⟩)
      exact ⟨fun q => mA2 k (mA k (this.1 q)), fun q => mB2 k (mB k (this.2 q))⟩
theorem zFP_skip {K F G : Nat → Int32} {v : Int32} {L t i : Nat} {A B : Nat → Bool} (hs : ¬ bt v i = true ∨ i = L) (h : zFP K F G v L t i A B) : zFP K F G v L t (i + 1) A B := by
  intro A0 B0 rk hD
  obtain ⟨h1, h2, h3⟩ := h A0 B0 rk hD
  refine ⟨h1, h2, fun k hk hbv hr => ?_⟩
  by_cases e : k = i
  · rcases hs with hs | hs
    · exact absurd (e ▸ hbv) hs
    · have : k = L := e.trans hs
      subst this
      exact ⟨fun _ => h1, fun q => absurd q (by rw [hD.2.2.2.2.1]; decide)⟩
  · exact h3 k hk hbv (by rcases hr with h | ⟨h, h'⟩; exact Or.inl h; exact Or.inr ⟨h, by omega⟩)
theorem zFP_turn {K F G : Nat → Int32} {v : Int32} {L t : Nat} {A B : Nat → Bool} (h : zFP K F G v L t 16 A B) : zFP K F G v L (t + 1) 0 A B := by
  intro A0 B0 rk hD
  obtain ⟨h1, h2, h3⟩ := h A0 B0 rk hD
  exact ⟨h1, h2, fun k hk hbv hr => h3 k hk hbv (Or.inr (by rcases hr with h | ⟨h, h'⟩ <;> omega))⟩
theorem q_mv {n i L t : Nat} {v : Int32} (rec32 : Int32 → Int32 → Int32 → zS → Option (Int32 × zS)) (rec41 : Int32 → Int32 → Int32 → Int32 → zS → Option (Int32 × zS)) {s : zS} (hw : zWf (s 1) (s 2) (s 3)) (hi : i < 16) {A B A1 B1 A2 B2 : Nat → Bool} (hm : ∀ k, k < 16 → s 14 k = zM (A k) (B k)) (hA1 : A1 = fun k => if k = i then (A i || (decide (s 1 i ≠ 0) && A (zN (s 2 i)))) else A k) (hB1 : B1 = fun k => if k = i then (B i || (decide (s 1 i ≠ 0) && B (zN (s 2 i)))) else B k) (hA2 : A2 = fun k => if k = i then (A1 i || (zTwo (s 1 i) && (if s 1 i = 2 then B1 (zN (s 3 i)) else A1 (zN (s 3 i))))) else A1 k) (hB2 : B2 = fun k => if k = i then (B1 i || (zTwo (s 1 i) && (if s 1 i = 2 then A1 (zN (s 3 i)) else B1 (zN (s 3 i))))) else B1 k) (t1 : Int32) (ht1 : t1 = if s 1 i = 0 then 0 else s 14 (zN (s 2 i))) : ∃ s', (∀ c, c ≠ 14 → s' c = s c) ∧ (∀ k, k < 16 → s' 14 k = zM (A2 k) (B2 k)) ∧ m_X8_isFalling_j97 rec32 rec41 n v (nI L) (nI t) (nI i) (nI i) (s 14 i) t1 s = rec41 v (nI L) (nI t) (nI (i + 1)) s' := by
  have e1 : ∀ k, k < 16 → zU s 14 i (s 14 i ||| t1) 14 k = zM (A1 k) (B1 k) := by
    intro k hk
    rw [hA1, hB1]
    by_cases e : k = i
    · subst e
      rw [zU_eq, hm k hk, ht1]
      simp only [if_pos]
      by_cases h0 : s 1 k = 0
      · rw [if_pos h0]; simp [h0, or_0]
      · rw [if_neg h0, hm _ (zWf_f hw hk h0).1, zM_or]; simp [h0]
    · rw [zU_nj e, hm k hk]; simp only [if_neg e]
  have k1 : zU s 14 i (s 14 i ||| t1) 1 = s 1 := zU_ne (by decide)
  have k3 : zU s 14 i (s 14 i ||| t1) 3 = s 3 := zU_ne (by decide)
  have run : m_X8_isFalling_j97 rec32 rec41 n v (nI L) (nI t) (nI i) (nI i) (s 14 i) t1 s = m_X8_isFalling_j161 rec32 rec41 n v (nI L) (nI t) (nI i) (nI i) (zM (A1 i) (B1 i)) (if zTwo (s 1 i) = true then (if s 1 i = 2 then zM (B1 (zN (s 3 i))) (A1 (zN (s 3 i))) else zM (A1 (zN (s 3 i))) (B1 (zN (s 3 i)))) else 0) (zU s 14 i (s 14 i ||| t1)) := by
    unfold m_X8_isFalling_j97
    rw [zWr_n hi (by decide), zRd_n hi (by decide), q_usesSecond hi, zBd_e, k1]
    by_cases ht : zTwo (s 1 i) = true
    · obtain ⟨g1, g2⟩ := zWf_g hw hi ht
      rw [if_pos ht, if_neg (by decide), if_pos ht, zRd_n hi (by decide)]
      by_cases h2 : s 1 i = 2
      · rw [if_pos h2, if_pos h2, zRd_n hi (by decide), k3, g2, zRd_n g1 (by decide), e1 _ g1, e1 i hi, ← g2]
        unfold m_X8_turned
        rw [zBd_r, zM_turn]
      · rw [if_neg h2, if_neg h2, zRd_n hi (by decide), k3, g2, zRd_n g1 (by decide), e1 _ g1, e1 i hi, ← g2]
    · rw [if_neg ht, if_pos rfl, if_neg ht, e1 i hi]
  refine ⟨zU (zU s 14 i (s 14 i ||| t1)) 14 i (zM (A2 i) (B2 i)), fun c hc => by rw [zU_ne hc, zU_ne hc], fun k hk => ?_, ?_⟩
  · by_cases e : k = i
    · subst e; rw [zU_eq]
    · rw [zU_nj e, e1 k hk, hA2, hB2]; simp only [if_neg e]
  · rw [run]
    unfold m_X8_isFalling_j161
    rw [zWr_n hi (by decide), zLt_e, nI_s]
    congr 2
    rw [hA2, hB2]
    simp only [if_pos]
    by_cases ht : zTwo (s 1 i) = true
    · by_cases h2 : s 1 i = 2
      · rw [if_pos ht, if_pos h2, zM_or]; simp [h2, (by decide : zTwo 2 = true)]
      · rw [if_pos ht, if_neg h2, zM_or]; simp [ht, h2]
    · rw [if_neg ht, or_0]; simp [ht]
theorem q_isFalling {n L : Nat} (hn : 100 ≤ n) {v : Int32} {s : zS} (hw : zWf (s 1) (s 2) (s 3)) (hL : L < 16) (h8 : s 1 L = 8) (_hvL : bt v L = true) : ∃ (r : Int32) (s' : zS) (A B : Nat → Bool), m_X8_isFalling n v (nI L) s = some (r, s') ∧ (∀ c, c ≠ 14 → s' c = s c) ∧ (∀ A0 B0, zRk (s 1) (s 2) (s 3) v L A0 B0 → ∀ k, k < 16 → A k = A0 k ∧ B k = B0 k) ∧ ((r = 1 ∧ (A (zN (s 3 L)) = false ∧ B (zN (s 3 L)) = true) ∧ ∀ k, k < 16 → ¬ (A k = true ∧ B k = true) ∧ ¬ (bt v k = true ∧ bt (s 13 k) k = true)) ∨ (r = 0 ∧ ¬ ((A (zN (s 3 L)) = false ∧ B (zN (s 3 L)) = true) ∧ ∀ k, k < 16 → ¬ (A k = true ∧ B k = true) ∧ ¬ (bt v k = true ∧ bt (s 13 k) k = true)))) := by
  obtain ⟨g1, g2⟩ := zWf_g hw hL (by rw [h8]; decide)
  -- the start
  obtain ⟨s1, f1, hf1, ⟨a1, a2⟩, e1⟩ := for_up (fun f i s' => m_X8_isFalling_j2 n f v (nI L) (nI i) s') (fun i s' => (∀ c, c ≠ 14 → s' c = s c) ∧ ∀ k, k < i → s' 14 k = zM (decide (k = L)) false) 16 (by
    intro f i s' hi ⟨h1, h2⟩
    refine ⟨zU s' 14 i (zM (decide (i = L)) false), ⟨fun c hc => (zU_ne hc).trans (h1 c hc), fun k hk => ?_⟩, ?_⟩
    · by_cases e : k = i
      · rw [e, zU_eq]
      · rw [zU_nj e]; exact h2 k (by omega)
    · show m_X8_isFalling_j2 n (f + 1) v (nI L) (nI i) s' = m_X8_isFalling_j2 n f v (nI L) (nI (i + 1)) _
      rw [m_X8_isFalling_j2, if_neg (n16 hi)]
      by_cases e : i = L
      · rw [if_pos (by rw [e]), zWr_n hi (by decide), zLt_e, nI_s]; simp [e, zM]
      · rw [if_neg (fun q => e ((eq_n (by omega) (by omega)).mp q)), zWr_n hi (by decide), zLt_e, nI_s]; simp [e, zM]) 16 n 0 s rfl (by omega) ⟨fun _ _ => rfl, fun k h => absurd h (Nat.not_lt_zero k)⟩
  -- the turns
  obtain ⟨s2, f2, hf2, ⟨A, B, b1, b2, b3⟩, e2⟩ := for_up (fun f t s' => m_X8_isFalling_j32 n f v (nI L) (nI t) s') (fun t s' => ∃ A B : Nat → Bool, (∀ c, c ≠ 14 → s' c = s c) ∧ (∀ k, k < 16 → s' 14 k = zM (A k) (B k)) ∧ zFP (s 1) (s 2) (s 3) v L t 0 A B) 16 (by
    intro f t s' ht ⟨A, B, h1, h2, h3⟩
    obtain ⟨s3, f3, hf3, ⟨A3, B3, c1, c2, c3⟩, e3⟩ := for_up (fun f9 i s9 => m_X8_isFalling_j41 (m_X8_isFalling_j32 n f) n f9 v (nI L) (nI t) (nI i) s9) (fun i s9 => ∃ A B : Nat → Bool, (∀ c, c ≠ 14 → s9 c = s c) ∧ (∀ k, k < 16 → s9 14 k = zM (A k) (B k)) ∧ zFP (s 1) (s 2) (s 3) v L t i A B) 16 (by
      intro f9 i s9 hi ⟨A, B, h1, h2, h3⟩
      by_cases hb : bt v i = true
      · by_cases e : i = L
        · refine ⟨s9, ⟨A, B, h1, h2, zFP_skip (Or.inr e) h3⟩, ?_⟩
          show m_X8_isFalling_j41 _ n (f9 + 1) v (nI L) (nI t) (nI i) s9 = _
          rw [m_X8_isFalling_j41, if_neg (n16 hi), if_pos ((tb_1 (by omega)).mpr hb), if_pos (by rw [e]), zLt_e, nI_s]
        · have w9 : zWf (s9 1) (s9 2) (s9 3) := by rw [h1 1 (by decide), h1 2 (by decide), h1 3 (by decide)]; exact hw
          obtain ⟨s', q1, q2, q3⟩ := q_mv (n := n) (L := L) (t := t) (v := v) (m_X8_isFalling_j32 n f) (m_X8_isFalling_j41 (m_X8_isFalling_j32 n f) n f9) w9 hi h2 rfl rfl rfl rfl _ rfl
          refine ⟨s', ⟨_, _, fun c hc => (q1 c hc).trans (h1 c hc), q2, ?_⟩, ?_⟩
          · have := zFP_step hw hi hb e h3 rfl rfl rfl rfl
            rw [h1 1 (by decide), h1 2 (by decide), h1 3 (by decide)]
            exact this
          · show m_X8_isFalling_j41 _ n (f9 + 1) v (nI L) (nI t) (nI i) s9 = _
            rw [m_X8_isFalling_j41, if_neg (n16 hi), if_pos ((tb_1 (by omega)).mpr hb), if_neg (fun q => e ((eq_n (by omega) (by omega)).mp q)), zRd_n hi (by decide), q_usesFirst hi, zBd_e]
            rw [← q3]
            by_cases h0 : s9 1 i = 0
            · rw [if_pos h0, if_pos rfl, if_pos h0]
            · obtain ⟨f1, f2⟩ := zWf_f w9 hi h0
              rw [if_neg h0, if_neg (by decide), zRd_n hi (by decide), f2, zRd_n f1 (by decide), if_neg h0, ← f2]
      · refine ⟨s9, ⟨A, B, h1, h2, zFP_skip (Or.inl hb) h3⟩, ?_⟩
        show m_X8_isFalling_j41 _ n (f9 + 1) v (nI L) (nI t) (nI i) s9 = _
        rw [m_X8_isFalling_j41, if_neg (n16 hi), if_neg (fun q => hb ((tb_1 (by omega)).mp q)), zLt_e, nI_s]) 16 n 0 s' rfl (by omega) ⟨A, B, h1, h2, h3⟩
    obtain ⟨f3, rfl⟩ : ∃ g, f3 = g + 1 := ⟨f3 - 1, by omega⟩
    refine ⟨s3, ⟨A3, B3, c1, c2, zFP_turn c3⟩, ?_⟩
    show m_X8_isFalling_j32 n (f + 1) v (nI L) (nI t) s' = m_X8_isFalling_j32 n f v (nI L) (nI (t + 1)) s3
    rw [m_X8_isFalling_j32, if_neg (n16 ht)]
    refine (show _ = _ from e3).trans ?_
    show m_X8_isFalling_j41 _ n (f3 + 1) v (nI L) (nI t) (nI 16) s3 = _
    rw [m_X8_isFalling_j41, if_pos n16e, zLt_e, nI_s]) 16 n 0 s1 rfl (by omega) ⟨fun k => decide (k = L), fun _ => false, a1, a2, fun A0 B0 rk hD => ⟨by simp, fun k hk => ⟨fun h => by rw [of_decide_eq_true h]; exact hD.2.2.2.1, fun h => (by cases h)⟩, fun k hk hbv hr => by
      have : rk k = 0 := by rcases hr with h | ⟨h, h'⟩ <;> omega
      by_cases e : k = L
      · subst e
        exact ⟨fun _ => by simp, fun h => absurd h (by rw [hD.2.2.2.2.1]; decide)⟩
      · -- a line of rank 0 uses no line of the circle
        obtain ⟨d1, d2, d3, d4, d5, d6, d7⟩ := hD
        obtain ⟨eA, eB⟩ := d7 k hk hbv e
        have no : ∀ j, j < 16 → zUb (s 1) (s 2) (s 3) false k j → A0 j = false ∧ B0 j = false := by
          intro j hj hu
          by_cases hbj : bt v j = true
          · have := d3 k hk hbv e j hj hu hbj; omega
          · exact d6 j hj hbj
        have z : mvA (s 1) (s 2) (s 3) A0 B0 k = false ∧ mvA (s 1) (s 2) (s 3) B0 A0 k = false := by
          unfold mvA
          constructor
          · have x1 : (decide (s 1 k ≠ 0) && A0 (zN (s 2 k))) = false := by
              by_cases h0 : s 1 k = 0
              · simp [h0]
              · rw [(no _ (zWf_f hw hk h0).1 (Or.inl ⟨h0, rfl⟩)).1]; simp
            rw [x1]
            cases ht : zTwo (s 1 k) with
            | false => rfl
            | true =>
              obtain ⟨q1, q2⟩ := no _ (zWf_g hw hk ht).1 (Or.inr ⟨ht, rfl, rfl⟩)
              rw [q1, q2]; simp
          · have x1 : (decide (s 1 k ≠ 0) && B0 (zN (s 2 k))) = false := by
              by_cases h0 : s 1 k = 0
              · simp [h0]
              · rw [(no _ (zWf_f hw hk h0).1 (Or.inl ⟨h0, rfl⟩)).2]; simp
            rw [x1]
            cases ht : zTwo (s 1 k) with
            | false => rfl
            | true =>
              obtain ⟨q1, q2⟩ := no _ (zWf_g hw hk ht).1 (Or.inr ⟨ht, rfl, rfl⟩)
              rw [q1, q2]; simp
        rw [eA, eB, z.1, z.2]
        exact ⟨fun h => (by cases h), fun h => (by cases h)⟩⟩⟩
  -- the test
  have key : ∀ v3 : Int32, (v3 = 0 ∨ v3 = 1) → ∃ r : Int32, m_X8_isFalling_j199 n n v v3 0 s2 = some (r, s2) ∧ ((r = 1 ∧ v3 = 1 ∧ ∀ k, k < 16 → ¬ (A k = true ∧ B k = true) ∧ ¬ (bt v k = true ∧ bt (s 13 k) k = true)) ∨ (r = 0 ∧ ¬ (v3 = 1 ∧ ∀ k, k < 16 → ¬ (A k = true ∧ B k = true) ∧ ¬ (bt v k = true ∧ bt (s 13 k) k = true)))) := by
    intro v3 hv3
    obtain ⟨w, f3, hf3, hI, e3⟩ := for_up (fun f i (w : Int32) => m_X8_isFalling_j199 n f v w (nI i) s2) (fun i w => (w = 1 ∧ v3 = 1 ∧ ∀ k, k < i → ¬ (A k = true ∧ B k = true) ∧ ¬ (bt v k = true ∧ bt (s 13 k) k = true)) ∨ (w = 0 ∧ ¬ (v3 = 1 ∧ ∀ k, k < i → ¬ (A k = true ∧ B k = true) ∧ ¬ (bt v k = true ∧ bt (s 13 k) k = true)))) 16 (by
      intro f i w hi hI
      have stay : ∀ x : Int32, (x = 1 ∧ (¬ (A i = true ∧ B i = true) ∧ ¬ (bt v i = true ∧ bt (s 13 i) i = true)) ∨ x = 0 ∧ ¬ (¬ (A i = true ∧ B i = true) ∧ ¬ (bt v i = true ∧ bt (s 13 i) i = true))) → ((w &&& x = 1 ∧ v3 = 1 ∧ ∀ k, k < i + 1 → ¬ (A k = true ∧ B k = true) ∧ ¬ (bt v k = true ∧ bt (s 13 k) k = true)) ∨ (w &&& x = 0 ∧ ¬ (v3 = 1 ∧ ∀ k, k < i + 1 → ¬ (A k = true ∧ B k = true) ∧ ¬ (bt v k = true ∧ bt (s 13 k) k = true)))) := by
        intro x hx
        rcases hI with ⟨rfl, h1, h2⟩ | ⟨rfl, h1⟩
        · rcases hx with ⟨rfl, hx⟩ | ⟨rfl, hx⟩
          · refine Or.inl ⟨by decide, h1, fun k hk => ?_⟩
            by_cases e : k = i
            · rw [e]; exact hx
            · exact h2 k (by omega)
          · exact Or.inr ⟨by decide, fun q => hx (q.2 i (by omega))⟩
        · refine Or.inr ⟨by rcases hx with ⟨rfl, _⟩ | ⟨rfl, _⟩ <;> decide, fun q => h1 ⟨q.1, fun k hk => q.2 k (by omega)⟩⟩
      have m14 : s2 14 i = 3 ↔ A i = true ∧ B i = true := by rw [b2 i hi, zM_3]
      have d13 : s2 13 = s 13 := b1 13 (by decide)
      by_cases h3 : s2 14 i = 3
      · refine ⟨w &&& 0, stay 0 (Or.inr ⟨rfl, fun q => q.1 (m14.mp h3)⟩), ?_⟩
        show m_X8_isFalling_j199 n (f + 1) v w (nI i) s2 = _
        rw [m_X8_isFalling_j199, if_neg (n16 hi), zRd_n hi (by decide), if_pos h3, zLt_e, zLt_e, nI_s]
      · by_cases hb : bt v i = true
        · by_cases hd : bt (s 13 i) i = true
          · refine ⟨w &&& 0, stay 0 (Or.inr ⟨rfl, fun q => q.2 ⟨hb, hd⟩⟩), ?_⟩
            show m_X8_isFalling_j199 n (f + 1) v w (nI i) s2 = _
            rw [m_X8_isFalling_j199, if_neg (n16 hi), zRd_n hi (by decide), if_neg h3, if_pos ((tb_1 (by omega)).mpr hb), q_depends hi (by omega), zBd_e, d13, if_pos hd, if_neg (by decide), zLt_e, zLt_e, nI_s]
          · refine ⟨w &&& 1, stay 1 (Or.inl ⟨rfl, fun q => h3 (m14.mpr q), fun q => hd q.2⟩), ?_⟩
            show m_X8_isFalling_j199 n (f + 1) v w (nI i) s2 = _
            rw [m_X8_isFalling_j199, if_neg (n16 hi), zRd_n hi (by decide), if_neg h3, if_pos ((tb_1 (by omega)).mpr hb), q_depends hi (by omega), zBd_e, d13, if_neg hd, if_pos rfl, zLt_e, zLt_e, nI_s]
        · refine ⟨w &&& 1, stay 1 (Or.inl ⟨rfl, fun q => h3 (m14.mpr q), fun q => hb q.1⟩), ?_⟩
          show m_X8_isFalling_j199 n (f + 1) v w (nI i) s2 = _
          rw [m_X8_isFalling_j199, if_neg (n16 hi), zRd_n hi (by decide), if_neg h3, if_neg (fun q => hb ((tb_1 (by omega)).mp q)), zLt_e, zLt_e, nI_s]) 16 n 0 v3 rfl (by omega) (by
        rcases hv3 with rfl | rfl
        · exact Or.inr ⟨rfl, fun q => absurd q.1 (by decide)⟩
        · exact Or.inl ⟨rfl, rfl, fun k h => absurd h (Nat.not_lt_zero k)⟩)
    obtain ⟨f3, rfl⟩ : ∃ g, f3 = g + 1 := ⟨f3 - 1, by omega⟩
    refine ⟨w, ?_, hI⟩
    refine (show _ = _ from e3).trans ?_
    show m_X8_isFalling_j199 n (f3 + 1) v w (nI 16) s2 = _
    rw [m_X8_isFalling_j199, if_pos n16e, zGd_e (zn_id _ (by rcases hI with ⟨h, _⟩ | ⟨h, _⟩ <;> simp [h]))]; rfl
  obtain ⟨f1, rfl⟩ : ∃ g, f1 = g + 1 := ⟨f1 - 1, by omega⟩
  obtain ⟨f2, rfl⟩ : ∃ g, f2 = g + 1 := ⟨f2 - 1, by omega⟩
  have run : m_X8_isFalling n v (nI L) s = if s2 14 (zN (s 3 L)) = 2 then m_X8_isFalling_j199 n n v 1 0 s2 else m_X8_isFalling_j199 n n v 0 0 s2 := by
    unfold m_X8_isFalling
    refine (show _ = _ from e1).trans ?_
    show m_X8_isFalling_j2 n (f1 + 1) v (nI L) (nI 16) s1 = _
    rw [m_X8_isFalling_j2, if_pos n16e]
    refine (show _ = _ from e2).trans ?_
    show m_X8_isFalling_j32 n (f2 + 1) v (nI L) (nI 16) s2 = _
    rw [m_X8_isFalling_j32, if_pos n16e, zRd_n hL (by decide), b1 3 (by decide), g2, zRd_n g1 (by decide), ← g2]
  have hz : ∀ A0 B0, zRk (s 1) (s 2) (s 3) v L A0 B0 → ∀ k, k < 16 → A k = A0 k ∧ B k = B0 k := by
    intro A0 B0 ⟨rk, hD⟩ k hk
    obtain ⟨q1, q2, q3⟩ := b3 A0 B0 rk hD
    obtain ⟨d1, d2, d3, d4, d5, d6, d7⟩ := hD
    by_cases hb : bt v k = true
    · obtain ⟨c1, c2⟩ := q3 k hk hb (Or.inl (d2 k hk))
      obtain ⟨c3, c4⟩ := q2 k hk
      exact ⟨Bool.eq_iff_iff.mpr ⟨c3, c1⟩, Bool.eq_iff_iff.mpr ⟨c4, c2⟩⟩
    · obtain ⟨c1, c2⟩ := d6 k hk hb
      obtain ⟨c3, c4⟩ := q2 k hk
      rw [c1] at c3 ⊢
      rw [c2] at c4 ⊢
      exact ⟨Bool.eq_false_iff.mpr (fun h => absurd (c3 h) (by decide)), Bool.eq_false_iff.mpr (fun h => absurd (c4 h) (by decide))⟩
  have hm2 : s2 14 (zN (s 3 L)) = 2 ↔ (A (zN (s 3 L)) = false ∧ B (zN (s 3 L)) = true) := by rw [b2 _ g1, zM_2]
  by_cases h2 : s2 14 (zN (s 3 L)) = 2
  · obtain ⟨r, er, hr⟩ := key 1 (Or.inr rfl)
    refine ⟨r, s2, A, B, by rw [run, if_pos h2, er], b1, hz, ?_⟩
    rcases hr with ⟨h, _, h'⟩ | ⟨h, h'⟩
    · exact Or.inl ⟨h, hm2.mp h2, h'⟩
    · exact Or.inr ⟨h, fun q => h' ⟨rfl, q.2⟩⟩
  · obtain ⟨r, er, hr⟩ := key 0 (Or.inl rfl)
    refine ⟨r, s2, A, B, by rw [run, if_neg h2, er], b1, hz, ?_⟩
    rcases hr with ⟨h, h', _⟩ | ⟨h, h'⟩
    · exact absurd h' (by decide)
    · exact Or.inr ⟨h, fun q => h2 (hm2.mpr q.1)⟩
end PFa
end
section
section PAl
/-! the reference's test of all circles -/
theorem zPath_c {u v : Nat → Nat → Bool} (h : ∀ i, i < 16 → ∀ j, u i j = v i j) : ∀ t, t ≤ 16 → ∀ i, i < 16 → ∀ j, zPath u t i j = zPath v t i j := by
  intro t
  induction t with
  | zero => intro _ i hi j; exact h i hi j
  | succ t ih =>
    intro ht i hi j
    rw [zPath_s, zPath_s, ih (by omega) i hi j, ih (by omega) i hi t, ih (by omega) t (by omega) j]
theorem zTC_c {u v : Nat → Nat → Bool} (h : ∀ i, i < 16 → ∀ j, u i j = v i j) {i j : Nat} (hi : i < 16) : zTC u i j = zTC v i j := zPath_c h 16 (Nat.le_refl _) i hi j
theorem zw_R {s : zS} {i j : Nat} (hi : i < 16) : zTC (zw s (-1)) i j = zR (s 1) (s 2) (s 3) i j := zTC_c (fun i hi j => by unfold zw zwU; rw [decide_eq_false (zn_L hi)]) hi
theorem zw_wo {s : zS} {L i j : Nat} (hL : L < 16) (hi : i < 16) : zTC (zw s (nI L)) i j = zTC (zwo (s 1) (s 2) (s 3) L) i j := zTC_c (fun i hi j => by
  unfold zw zwU zwo
  congr 2
  exact decide_eq_decide.mpr (eq_n (by omega) (by omega))) hi
theorem acyc {K F G : Nat → Int32} (hw : zWf K F G) {v : Int32} {L i0 : Nat} {A B : Nat → Bool} (hi0 : i0 < 16) (hv : zCir (zR K F G) i0 v) (hF : ¬ bt v (zN (F L)) = true) (hR : zRk K F G v L A B) {k : Nat} (hk : k < 16) (hb : bt v k = true) : ¬ zTC (zwo K F G L) k k = true := by
  obtain ⟨rk, d1, d2, d3, d4, d5, d6, d7⟩ := hR
  have hvb : ∀ j, j < 16 → (bt v j = true ↔ zR K F G i0 j = true ∧ zR K F G j i0 = true) := by
    intro j hj
    rw [hv j (by omega)]; simp [hj]
  intro hc
  have key := zTC_min (u := fun i j => decide (i < 16) && zwo K F G L i j) (fun i j => i < 16 ∧ j < 16 ∧ zR K F G i j = true ∧ (bt v i = true → bt v j = true → rk j < rk i)) (fun i j h => by
    obtain ⟨h1, h2⟩ := Bool.and_eq_true_iff.mp h
    have hi := of_decide_eq_true h1
    have hj32 : j < 32 := by
      rcases Nat.lt_or_ge j 32 with h | h
      · exact h
      · unfold zwo at h2; rw [b_big h] at h2; cases h2
    have hu := (use_bt hw hi _ hj32).mp h2
    have hj := zUb_lt hw hi hu
    have hu' : zUb K F G false i j := by
      rcases hu with h | ⟨a, _, b⟩
      · exact Or.inl h
      · exact Or.inr ⟨a, rfl, b⟩
    refine ⟨hi, hj, zR_u hw hi hu', fun bi bj => ?_⟩
    by_cases e : i = L
    · rcases hu with ⟨_, h⟩ | ⟨_, h, _⟩
      · rw [h, e] at bj; exact absurd bj hF
      · exact absurd h (by simp [e])
    · exact d3 i hi bi e j hj hu' bj) (fun i m j hm h1 h2 => by
    refine ⟨h1.1, h2.2.1, zTC_tr hm h1.2.2.1 h2.2.2.1, fun bi bj => ?_⟩
    have bm : bt v m = true := by
      obtain ⟨a1, a2⟩ := (hvb i h1.1).mp bi
      obtain ⟨c1, c2⟩ := (hvb j h2.2.1).mp bj
      exact (hvb m hm).mpr ⟨zTC_tr h1.1 a1 h1.2.2.1, zTC_tr h2.2.1 h2.2.2.1 c2⟩
    have q1 := h1.2.2.2 bi bm
    have q2 := h2.2.2.2 bm bj
    omega) (i := k) (j := k) (by
    rw [zTC_c (v := zwo K F G L) (fun i hi j => by simp [hi]) hk]; exact hc)
  have := key.2.2.2 hb hb
  omega
theorem q_limits {n : Nat} (hn : 100 ≤ n) (rec4 : Int32 → Int32 → zS → Option (Int32 × zS)) (v1 v2 v : Int32) (s : zS) : ∃ c l f', c ≤ 16 ∧ l < 16 ∧ (c = 1 → zOne (s 1) v l) ∧ (∀ L, zOne (s 1) v L → c = 1) ∧ m_X8_isAllowed_j39 rec4 n n v1 v2 v 0 0 0 s = m_X8_isAllowed_j39 rec4 n (f' + 1) v1 v2 v (nI c) (nI l) (nI 16) s := by
  obtain ⟨⟨c, l⟩, f1, hf1, ⟨h1, h2, h3⟩, e1⟩ := for_up (fun f i (x : Nat × Nat) => m_X8_isAllowed_j39 rec4 n f v1 v2 v (nI x.1) (nI x.2) (nI i) s) (fun i x => x.1 ≤ i ∧ x.2 < 16 ∧ ((x.1 = 0 ∧ ∀ k, k < i → ¬ (bt v k = true ∧ s 1 k = 8)) ∨ (x.1 = 1 ∧ x.2 < i ∧ ∀ k, k < i → ((bt v k = true ∧ s 1 k = 8) ↔ k = x.2)) ∨ (2 ≤ x.1 ∧ ∃ a b, a < i ∧ b < i ∧ a ≠ b ∧ (bt v a = true ∧ s 1 a = 8) ∧ (bt v b = true ∧ s 1 b = 8)))) 16 (by
    rintro f i ⟨c, l⟩ hi ⟨h1, h2, h3⟩
    have go : ∀ t : Int32, m_X8_isAllowed_j73 rec4 (m_X8_isAllowed_j39 rec4 n f) n v1 v2 v (nI c) (nI l) (nI i) t s = if t = 0 then m_X8_isAllowed_j39 rec4 n f v1 v2 v (nI c) (nI l) (nI (i + 1)) s else m_X8_isAllowed_j39 rec4 n f v1 v2 v (nI (c + 1)) (nI i) (nI (i + 1)) s := by
      intro t
      unfold m_X8_isAllowed_j73 m_X8_isAllowed_j87
      by_cases ht : t = 0
      · rw [if_pos ht, if_pos ht, zLt_e, if_pos ht, zLt_e, nI_s, Int32.add_zero]
      · rw [if_neg ht, if_neg ht, zLt_e, if_neg ht, zLt_e, nI_s, nI_s]
    by_cases hp : bt v i = true ∧ s 1 i = 8
    · refine ⟨(c + 1, i), ⟨Nat.succ_le_succ h1, hi, ?_⟩, ?_⟩
      · rcases h3 with ⟨q1, q2⟩ | ⟨q1, q2, q3⟩ | ⟨q1, a, b, q2⟩
        · refine Or.inr (Or.inl ⟨by simp only at q1 ⊢; omega, Nat.lt_succ_self i, fun k hk => ?_⟩)
          by_cases e : k = i
          · rw [e]; exact ⟨fun _ => rfl, fun _ => hp⟩
          · exact ⟨fun q => absurd q (q2 k (by omega)), fun q => absurd q e⟩
        · refine Or.inr (Or.inr ⟨by simp only at q1 ⊢; omega, l, i, by simp only at q2; omega, Nat.lt_succ_self i, by simp only at q2; omega, (q3 l q2).mpr rfl, hp⟩)
        · refine Or.inr (Or.inr ⟨by simp only at q1 ⊢; omega, a, b, by omega, by omega, q2.2.2.1, q2.2.2.2⟩)
      · show m_X8_isAllowed_j39 rec4 n (f + 1) v1 v2 v (nI c) (nI l) (nI i) s = m_X8_isAllowed_j39 rec4 n f v1 v2 v (nI (c + 1)) (nI i) (nI (i + 1)) s
        rw [m_X8_isAllowed_j39, if_neg (n16 hi), if_pos ((tb_1 (by omega)).mpr hp.1), zRd_n hi (by decide), if_pos hp.2, go, if_neg (by decide)]
    · refine ⟨(c, l), ⟨Nat.le_succ_of_le h1, h2, ?_⟩, ?_⟩
      · rcases h3 with ⟨q1, q2⟩ | ⟨q1, q2, q3⟩ | ⟨q1, a, b, q2⟩
        · refine Or.inl ⟨q1, fun k hk => ?_⟩
          by_cases e : k = i
          · rw [e]; exact hp
          · exact q2 k (by omega)
        · refine Or.inr (Or.inl ⟨q1, by simp only at q2 ⊢; omega, fun k hk => ?_⟩)
          by_cases e : k = i
          · rw [e]; exact ⟨fun q => absurd q hp, fun q => by simp only at q2 q; omega⟩
          · exact q3 k (by omega)
        · exact Or.inr (Or.inr ⟨q1, a, b, by omega, by omega, q2.2.2.1, q2.2.2.2⟩)
      · show m_X8_isAllowed_j39 rec4 n (f + 1) v1 v2 v (nI c) (nI l) (nI i) s = m_X8_isAllowed_j39 rec4 n f v1 v2 v (nI c) (nI l) (nI (i + 1)) s
        rw [m_X8_isAllowed_j39, if_neg (n16 hi)]
        by_cases hb : bt v i = true
        · rw [if_pos ((tb_1 (by omega)).mpr hb), zRd_n hi (by decide), if_neg (fun q => hp ⟨hb, q⟩), go, if_pos rfl]
        · rw [if_neg (fun q => hb ((tb_1 (by omega)).mp q)), go, if_pos rfl]) 16 n 0 (0, 0) rfl (by omega) ⟨Nat.le_refl _, by show (0 : Nat) < 16; omega, Or.inl ⟨rfl, fun k h => absurd h (Nat.not_lt_zero k)⟩⟩
  simp only at h1 h2 h3
  obtain ⟨f1, rfl⟩ : ∃ g, f1 = g + 1 := ⟨f1 - 1, by omega⟩
  refine ⟨c, l, f1, h1, h2, fun hc => ?_, fun L hL => ?_, e1⟩
  · rcases h3 with ⟨q1, q2⟩ | ⟨q1, q2, q3⟩ | ⟨q1, a, b, q2⟩
    · omega
    · exact ⟨h2, q3⟩
    · omega
  · rcases h3 with ⟨q1, q2⟩ | ⟨q1, q2, q3⟩ | ⟨q1, a, b, q2, q3, q4, q5, q6⟩
    · exact absurd ((hL.2 L hL.1).mpr rfl) (q2 L hL.1)
    · exact q1
    · exact absurd (((hL.2 a q2).mp q5).trans ((hL.2 b q3).mp q6).symm) q4
theorem q_isAllowed {n : Nat} (hn : 100 ≤ n) {s : zS} (hw : zWf (s 1) (s 2) (s 3)) : ∃ (r : Int32) (s' : zS), m_X8_isAllowed n s = some (r, s') ∧ (∀ c, c ≠ 13 → c ≠ 14 → s' c = s c) ∧ ((∀ i, i < 16 → zR (s 1) (s 2) (s 3) i i = true → ∃ v L, zCir (zR (s 1) (s 2) (s 3)) i v ∧ zCG (s 1) (s 2) (s 3) v L) → r = 1) ∧ ((∃ i v, i < 16 ∧ zR (s 1) (s 2) (s 3) i i = true ∧ zCir (zR (s 1) (s 2) (s 3)) i v ∧ zCB (s 1) (s 2) (s 3) v) → r = 0) := by
  obtain ⟨⟨w, s2⟩, f1, hf1, ⟨g1, g2, g3, g4⟩, e1⟩ := for_up (fun f i (x : Int32 × zS) => m_X8_isAllowed_j4 n f x.1 (nI i) x.2) (fun i x => (x.1 = 0 ∨ x.1 = 1) ∧ (∀ c, c ≠ 13 → c ≠ 14 → x.2 c = s c) ∧ ((∀ k, k < i → zR (s 1) (s 2) (s 3) k k = true → ∃ v L, zCir (zR (s 1) (s 2) (s 3)) k v ∧ zCG (s 1) (s 2) (s 3) v L) → x.1 = 1) ∧ ((∃ k v, k < i ∧ zR (s 1) (s 2) (s 3) k k = true ∧ zCir (zR (s 1) (s 2) (s 3)) k v ∧ zCB (s 1) (s 2) (s 3) v) → x.1 = 0)) 16 (by
    rintro f i ⟨w, s9⟩ hi ⟨h1, h2, h3, h4⟩
    simp only at h1 h2 h3 h4
    have k1 := h2 1 (by decide) (by decide)
    have k2 := h2 2 (by decide) (by decide)
    have k3 := h2 3 (by decide) (by decide)
    have w9 : zWf (s9 1) (s9 2) (s9 3) := by rw [k1, k2, k3]; exact hw
    obtain ⟨sa, ea, fa, ra⟩ := q_needs hn (-1) s9
    have ra' : ∀ i, i < 16 → ∀ j, j < 32 → bt (sa 13 i) j = zR (s 1) (s 2) (s 3) i j := by
      intro i hi j hj
      rw [ra i hi j hj, zw_R hi, k1, k2, k3]
    by_cases hc : bt (sa 13 i) i = true
    · have hci : zR (s 1) (s 2) (s 3) i i = true := by rw [← ra' i hi i (by omega)]; exact hc
      obtain ⟨v, ev, bv⟩ := q_circle hn hi sa ra'
      have hv : zCir (zR (s 1) (s 2) (s 3)) i v := bv
      obtain ⟨c, l, f', hc16, hl, hone, huni, e39⟩ := q_limits hn (m_X8_isAllowed_j4 n f) w (nI i) v sa
      have a1 : sa 1 = s 1 := (fa 1 (by decide)).trans k1
      have a2 : sa 2 = s 2 := (fa 2 (by decide)).trans k2
      have a3 : sa 3 = s 3 := (fa 3 (by decide)).trans k3
      rw [a1] at hone huni
      -- what comes of the circle
      have out : ∃ (e : Int32) (sb : zS), (e = 0 ∨ e = 1) ∧ (∀ c, c ≠ 13 → c ≠ 14 → sb c = s c) ∧ ((∃ L, zCG (s 1) (s 2) (s 3) v L) → e = 1) ∧ (zCB (s 1) (s 2) (s 3) v → e = 0) ∧ m_X8_isAllowed_j39 (m_X8_isAllowed_j4 n f) n (f' + 1) w (nI i) v (nI c) (nI l) (nI 16) sa = m_X8_isAllowed_j4 n f (w &&& e) (nI (i + 1)) sb := by
        obtain ⟨sb, eb, fb, rb⟩ := q_needs hn (nI l) sa
        have frb : ∀ c, c ≠ 13 → c ≠ 14 → sb c = s c := fun c h13 h14 => by rw [fb c h13, fa c h13, h2 c h13 h14]
        have b1 : sb 1 = s 1 := frb 1 (by decide) (by decide)
        have b2 : sb 2 = s 2 := frb 2 (by decide) (by decide)
        have b3 : sb 3 = s 3 := frb 3 (by decide) (by decide)
        by_cases hc1 : c = 1
        · have hO := hone hc1
          obtain ⟨bl, kl⟩ := (hO.2 l hl).mpr rfl
          have hKl : s 1 l ≠ 0 := by rw [kl]; decide
          obtain ⟨f1, f2⟩ := zWf_f hw hl hKl
          have wb : zWf (sb 1) (sb 2) (sb 3) := by rw [b1, b2, b3]; exact hw
          obtain ⟨r, sc, A, B, ec, fc, hz, hr⟩ := q_isFalling hn (v := v) wb hl (by rw [b1]; exact kl) bl
          rw [b1, b2, b3] at hz
          rw [b3] at hr
          have frc : ∀ c, c ≠ 13 → c ≠ 14 → sc c = s c := fun c h13 h14 => by rw [fc c h14, frb c h13 h14]
          have rb' : ∀ k, k < 16 → (bt (sb 13 k) k = true ↔ zTC (zwo (s 1) (s 2) (s 3) l) k k = true) := by
            intro k hk
            rw [rb k hk k (by omega), zw_wo hl hk, a1, a2, a3]
          -- whether the first line of the limit lies outside
          have run : ∀ t1 : Int32, (t1 = 0 ∨ t1 = 1) → m_X8_isAllowed_j136 (m_X8_isAllowed_j4 n f) n (nI i) v (nI c) (nI l) w t1 sa = m_X8_isAllowed_j4 n f (w &&& (t1 &&& r)) (nI (i + 1)) sc := by
            intro t1 _
            unfold m_X8_isAllowed_j136
            rw [zLt_e, eb, zBd_e, if_pos (show nI c = 1 by rw [hc1]; rfl), ec, zBd_e, ← Int32.and_assoc]
            rcases hr with ⟨rfl, _⟩ | ⟨rfl, _⟩
            · rw [if_neg (by decide), zLt_e, zLt_e, nI_s]
            · rw [if_pos rfl, zLt_e, zLt_e, nI_s]
          have e16 : m_X8_isAllowed_j39 (m_X8_isAllowed_j4 n f) n (f' + 1) w (nI i) v (nI c) (nI l) (nI 16) sa = m_X8_isAllowed_j136 (m_X8_isAllowed_j4 n f) n (nI i) v (nI c) (nI l) w (if bt v (zN (s 2 l)) = true then 0 else 1) sa := by
            rw [m_X8_isAllowed_j39, if_pos n16e, if_pos (show nI c = 1 by rw [hc1]; rfl), zRd_n hl (by decide), a2, f2]
            by_cases hF : bt v (zN (s 2 l)) = true
            · rw [if_neg (fun q => ((tb_0 (by omega)).mp q) hF), ← f2, if_pos hF]
            · rw [if_pos ((tb_0 (by omega)).mpr hF), ← f2, if_neg hF]
          refine ⟨(if bt v (zN (s 2 l)) = true then 0 else 1) &&& r, sc, ?_, frc, ?_, ?_, ?_⟩
          · rcases hr with ⟨rfl, _⟩ | ⟨rfl, _⟩ <;> split <;> decide
          · rintro ⟨L, hO', hF', A0, B0, hRk, hf⟩
            have : L = l := (hO.2 L hO'.1).mp ((hO'.2 L hO'.1).mpr rfl)
            subst this
            rw [if_neg hF']
            rcases hr with ⟨rfl, _⟩ | ⟨rfl, hno⟩
            · decide
            · refine absurd ⟨?_, fun k hk => ⟨?_, ?_⟩⟩ hno
              · obtain ⟨g1, g2⟩ := zWf_g hw hl (by rw [kl]; decide)
                obtain ⟨z1, z2⟩ := hz A0 B0 hRk _ g1
                rw [z1, z2]
                have := hf.1 _ g1
                rw [hf.2] at this
                exact ⟨by simpa using this, hf.2⟩
              · obtain ⟨z1, z2⟩ := hz A0 B0 hRk _ hk
                rw [z1, z2]; exact hf.1 k hk
              · rintro ⟨q1, q2⟩
                exact acyc hw hi hv hF' hRk hk q1 ((rb' k hk).mp q2)
          · rintro (hno | ⟨L, hO', hbad⟩)
            · exact absurd ⟨l, hO⟩ hno
            · have : L = l := (hO.2 L hO'.1).mp ((hO'.2 L hO'.1).mpr rfl)
              subst this
              rcases hbad with hF | ⟨k, hk, q1, q2⟩ | ⟨A0, B0, hRk, hf⟩
              · rw [if_pos hF]
                rcases hr with ⟨rfl, _⟩ | ⟨rfl, _⟩ <;> decide
              · rcases hr with ⟨rfl, _, h⟩ | ⟨rfl, _⟩
                · exact absurd ⟨q1, (rb' k hk).mpr q2⟩ (h k hk).2
                · split <;> decide
              · rcases hr with ⟨rfl, h1, h⟩ | ⟨rfl, _⟩
                · refine absurd ⟨fun k hk => ?_, ?_⟩ hf
                  · obtain ⟨z1, z2⟩ := hz A0 B0 hRk _ hk
                    rw [← z1, ← z2]; exact (h k hk).1
                  · obtain ⟨g1, g2⟩ := zWf_g hw hl (by rw [kl]; decide)
                    obtain ⟨z1, z2⟩ := hz A0 B0 hRk _ g1
                    rw [← z2]; exact h1.2
                · split <;> decide
          · rw [e16, run _ (by split <;> simp)]
        · refine ⟨0, sb, Or.inl rfl, frb, ?_, fun _ => rfl, ?_⟩
          · rintro ⟨L, hO', _⟩
            exact absurd (huni L hO') hc1
          · have hne : ¬ nI c = 1 := fun q => hc1 ((eq_n (b := 1) (by omega) (by omega)).mp q)
            rw [m_X8_isAllowed_j39, if_pos n16e, if_neg hne]
            unfold m_X8_isAllowed_j136
            rw [zLt_e, eb, zBd_e, if_neg hne, zLt_e, zLt_e, nI_s, Int32.and_assoc]
            rfl
      obtain ⟨e, sb, he, hsb, hgood, hbad, erun⟩ := out
      refine ⟨(w &&& e, sb), ⟨?_, hsb, fun h => ?_, fun h => ?_⟩, ?_⟩
      · show w &&& e = 0 ∨ w &&& e = 1
        rcases h1 with rfl | rfl <;> rcases he with rfl | rfl <;> decide
      · show w &&& e = 1
        have w1 : w = 1 := h3 (fun k hk hck => h k (by omega) hck)
        obtain ⟨v', L, hv', hg⟩ := h i (by omega) hci
        rw [w1, hgood ⟨L, (zCir_eq hv' hv) ▸ hg⟩]; decide
      · show w &&& e = 0
        obtain ⟨k, v', hk, hck, hv', hb⟩ := h
        by_cases ek : k = i
        · subst ek
          rw [hbad ((zCir_eq hv' hv) ▸ hb)]
          rcases h1 with rfl | rfl <;> decide
        · rw [h4 ⟨k, v', by omega, hck, hv', hb⟩]
          rcases he with rfl | rfl <;> decide
      · show m_X8_isAllowed_j4 n (f + 1) w (nI i) s9 = m_X8_isAllowed_j4 n f (w &&& e) (nI (i + 1)) sb
        rw [m_X8_isAllowed_j4, if_neg (n16 hi), ea, zBd_e, q_depends hi (by omega), zBd_e, if_pos hc, if_neg (by decide), ev, zBd_e]
        exact e39.trans erun
    · have hnc : ¬ zR (s 1) (s 2) (s 3) i i = true := by rw [← ra' i hi i (by omega)]; exact hc
      refine ⟨(w, sa), ⟨h1, fun c h13 h14 => by show sa c = s c; rw [fa c h13, h2 c h13 h14], fun h => h3 (fun k hk => h k (by omega)), fun ⟨k, v, hk, hck, h⟩ => ?_⟩, ?_⟩
      · by_cases ek : k = i
        · subst ek; exact absurd hck hnc
        · exact h4 ⟨k, v, by omega, hck, h⟩
      · show m_X8_isAllowed_j4 n (f + 1) w (nI i) s9 = m_X8_isAllowed_j4 n f w (nI (i + 1)) sa
        rw [m_X8_isAllowed_j4, if_neg (n16 hi), ea, zBd_e, q_depends hi (by omega), zBd_e, if_neg hc, if_pos rfl, zLt_e, nI_s]) 16 n 0 (1, s) rfl (by omega) ⟨Or.inr rfl, fun _ _ _ => rfl, fun _ => rfl, fun ⟨k, v, hk, _⟩ => absurd hk (Nat.not_lt_zero k)⟩
  obtain ⟨f1, rfl⟩ : ∃ g, f1 = g + 1 := ⟨f1 - 1, by omega⟩
  simp only at g1 g2 g3 g4
  refine ⟨w, s2, ?_, g2, g3, g4⟩
  unfold m_X8_isAllowed
  refine (show _ = _ from e1).trans ?_
  show m_X8_isAllowed_j4 n (f1 + 1) w (nI 16) s2 = _
  rw [m_X8_isAllowed_j4, if_pos n16e, zGd_e (zn_id _ g1)]; rfl
end PAl
end
section
section PNu
/-! numbers -/
def zBn (v : Int32) : Prop := ∃ a, a ≤ 1000000000 ∧ v = nI a
theorem n_sub {a b : Nat} (h : b ≤ a) : nI a - nI b = nI (a - b) := by
  have : nI a = nI (a - b) + nI b := by rw [nI_add]; congr 1; omega
  rw [this, Int32.add_sub_cancel]
theorem n_s1 {a : Nat} (h : 0 < a) : nI a - 1 = nI (a - 1) := n_sub (b := 1) h
theorem zBn_of {v : Int32} (h0 : 0 ≤ v) (h1 : v ≤ 1000000000) : zBn v := by
  obtain ⟨j, hj, e⟩ := nI_of2 (x := v) (M := 1000000000) (n := 1000000000) (by decide) (Int32.not_lt.mpr h0) h1
  exact ⟨j, hj, e⟩
theorem zBn_r {v : Int32} (h : zBn v) : 0 ≤ v ∧ v ≤ 1000000000 := by
  obtain ⟨a, ha, rfl⟩ := h
  exact ⟨nI_pos' (by omega), (le_n (b := 1000000000) (by omega) (by omega)).mpr ha⟩
theorem zBn_0 : zBn 0 := ⟨0, by omega, rfl⟩
def zThou (a b : Int32) : Int32 := Int64.toInt32 (((Int32.toInt64 a) * (Int32.toInt64 b)) / (1000 : Int64))
theorem n_thou {a r : Nat} (ha : a ≤ 1000000000) (hr : r ≤ 1000) : zThou (nI a) (nI r) = nI (a * r / 1000) := by
  unfold zThou
  have hm : a * r ≤ 1000000000 * 1000 := Nat.mul_le_mul ha hr
  rw [nI_l (by omega), nI_l (by omega), lN_mul]
  rw [show (1000 : Int64) = lN 1000 from rfl, pk_lDiv (by omega) (by omega) (by omega), lN_i]
theorem thou_le {a r : Nat} (hr : r ≤ 1000) : a * r / 1000 ≤ a := by
  have : a * r ≤ a * 1000 := Nat.mul_le_mul_left a hr
  omega
theorem n_neg {a b : Nat} (ha : a ≤ 1000000000) (hb : b ≤ 1000000000) : (nI a - nI b < 0) ↔ a < b := by
  rw [Int32.lt_iff_toInt_lt, pk_sub_toInt (by omega) (by omega)]
  show (a : Int) - b < 0 ↔ a < b
  omega
theorem n_min {a b : Nat} (ha : a < 2147483648) (hb : b < 2147483648) : (if nI b < nI a then nI b else nI a) = nI (min a b) := by
  by_cases h : b < a
  · rw [if_pos ((lt_n hb ha).mpr h), Nat.min_eq_right (by omega)]
  · rw [if_neg (fun q => h ((lt_n hb ha).mp q)), Nat.min_eq_left (by omega)]
theorem n_max {a b : Nat} (ha : a < 2147483648) (hb : b < 2147483648) : (if nI a < nI b then nI b else nI a) = nI (max a b) := by
  by_cases h : a < b
  · rw [if_pos ((lt_n ha hb).mpr h), Nat.max_eq_right (by omega)]
  · rw [if_neg (fun q => h ((lt_n ha hb).mp q)), Nat.max_eq_left (by omega)]
/-- halving -/
def zHl (h : Int32 → Int32) : Nat → Int32 → Int32 → Int32
  | 0, lo, _ => lo
  | f + 1, lo, hi => if hi ≤ lo then lo else if h (lo + (((hi - lo) + (1 : Int32)) / (2 : Int32))) < lo + (((hi - lo) + (1 : Int32)) / (2 : Int32)) then zHl h f lo ((lo + (((hi - lo) + (1 : Int32)) / (2 : Int32))) - (1 : Int32)) else zHl h f (lo + (((hi - lo) + (1 : Int32)) / (2 : Int32))) hi
theorem mid_c {lo hi : Nat} (h1 : lo < hi) (h2 : hi ≤ 1000000000) : nI lo + (((nI hi - nI lo) + (1 : Int32)) / (2 : Int32)) = nI (lo + (hi - lo + 1) / 2) := by
  rw [n_sub (by omega), nI_s, show (2 : Int32) = nI 2 from rfl, pk_div (by omega) (by omega) (by omega), nI_add]
theorem mid_r {lo hi : Nat} (h1 : lo < hi) (h2 : hi ≤ 1000000000) : nI hi - ((nI hi - nI lo) / (2 : Int32)) = nI (lo + (hi - lo + 1) / 2) := by
  rw [n_sub (by omega), show (2 : Int32) = nI 2 from rfl, pk_div (by omega) (by omega) (by omega), n_sub (by omega)]
  congr 1; omega
theorem zHl_s {h : Int32 → Int32} {f lo hi : Nat} (h1 : lo < hi) (h2 : hi ≤ 1000000000) : zHl h (f + 1) (nI lo) (nI hi) = if h (nI (lo + (hi - lo + 1) / 2)) < nI (lo + (hi - lo + 1) / 2) then zHl h f (nI lo) (nI (lo + (hi - lo + 1) / 2 - 1)) else zHl h f (nI (lo + (hi - lo + 1) / 2)) (nI hi) := by
  rw [zHl, if_neg (fun q => by have := (le_n (by omega) (by omega)).mp q; omega), mid_c h1 h2, n_s1 (by omega)]
theorem zHl_d {h : Int32 → Int32} {f lo hi : Nat} (h1 : hi ≤ lo) (h2 : lo ≤ 1000000000) : zHl h f (nI lo) (nI hi) = nI lo := by
  cases f with
  | zero => rfl
  | succ f => rw [zHl, if_pos ((le_n (by omega) (by omega)).mpr h1)]
theorem zHl_in {h : Int32 → Int32} : ∀ f lo hi, lo ≤ hi → hi ≤ 1000000000 → ∃ a, lo ≤ a ∧ a ≤ hi ∧ zHl h f (nI lo) (nI hi) = nI a := by
  intro f
  induction f with
  | zero => intro lo hi h1 h2; exact ⟨lo, Nat.le_refl _, h1, rfl⟩
  | succ f ih =>
    intro lo hi h1 h2
    rcases Nat.lt_or_ge lo hi with hlt | hge
    · rw [zHl_s hlt h2]
      split
      · obtain ⟨a, a1, a2, a3⟩ := ih lo (lo + (hi - lo + 1) / 2 - 1) (by omega) (by omega)
        exact ⟨a, a1, by omega, a3⟩
      · obtain ⟨a, a1, a2, a3⟩ := ih (lo + (hi - lo + 1) / 2) hi (by omega) (by omega)
        exact ⟨a, by omega, a2, a3⟩
    · exact ⟨lo, Nat.le_refl _, h1, zHl_d hge (by omega)⟩
theorem zHl_const {g : Nat} (hg : g ≤ 1000000000) : ∀ f lo hi, hi - lo < 2 ^ f → lo ≤ min g hi → hi ≤ 1000000000 → zHl (fun _ => nI g) f (nI lo) (nI hi) = nI (min g hi) := by
  intro f
  induction f with
  | zero =>
    intro lo hi h1 h2 h3
    rw [zHl_d (by omega) (by omega)]; congr 1; omega
  | succ f ih =>
    intro lo hi h1 h2 h3
    rcases Nat.lt_or_ge lo hi with hlt | hge
    · rw [zHl_s hlt h3]
      have hp : 2 ^ (f + 1) = 2 * 2 ^ f := by rw [Nat.pow_succ]; omega
      by_cases hc : g < lo + (hi - lo + 1) / 2
      · rw [if_pos ((lt_n (by omega) (by omega)).mpr hc), ih _ _ (by omega) (by omega) (by omega)]
        congr 1; omega
      · rw [if_neg (fun q => hc ((lt_n (by omega) (by omega)).mp q)), ih _ _ (by omega) (by omega) (by omega)]
    · rw [zHl_d hge (by omega)]; congr 1; omega
theorem zHl_c {h1 h2 : Int32 → Int32} (hh : ∀ a, a ≤ 1000000000 → h1 (nI a) = h2 (nI a)) : ∀ f lo hi, lo ≤ 1000000000 → hi ≤ 1000000000 → zHl h1 f (nI lo) (nI hi) = zHl h2 f (nI lo) (nI hi) := by
  intro f
  induction f with
  | zero => intro lo hi _ _; rfl
  | succ f ih =>
    intro lo hi hl h3
    rcases Nat.lt_or_ge lo hi with hlt | hge
    · rw [zHl_s hlt h3, zHl_s hlt h3, hh _ (by omega), ih _ _ hl (by omega), ih _ _ (by omega) h3]
    · rw [zHl_d hge hl, zHl_d hge hl]
end PNu
section PSu
/-! values by the plan -/
def zPv (K F G : Nat → Int32) (tx : Int32 → Int32) (tot : Int32) (an : Nat → Int32) (e : Nat → Int32) (k : Nat) : Int32 :=
  if K k = 1 then (if (1000000000 : Int32) < e (zN (F k)) + e (zN (G k)) then 1000000000 else e (zN (F k)) + e (zN (G k)))
  else if K k = 2 then (if e (zN (F k)) - e (zN (G k)) < 0 then 0 else e (zN (F k)) - e (zN (G k)))
  else if K k = 3 then zThou (e (zN (F k))) (G k)
  else if K k = 4 then (if e (zN (G k)) < e (zN (F k)) then e (zN (G k)) else e (zN (F k)))
  else if K k = 5 then (if e (zN (F k)) < e (zN (G k)) then e (zN (G k)) else e (zN (F k)))
  else if K k = 6 then tx (e (zN (F k)))
  else if K k = 7 then (if tot < e (zN (F k)) then tot else e (zN (F k)))
  else if K k = 8 then (if e (zN (G k)) < e (zN (F k)) then e (zN (G k)) else e (zN (F k)))
  else an k
theorem zK_cases {K F G : Nat → Int32} (hw : zWf K F G) {k : Nat} (hk : k < 16) : K k = 0 ∨ K k = 1 ∨ K k = 2 ∨ K k = 3 ∨ K k = 4 ∨ K k = 5 ∨ K k = 6 ∨ K k = 7 ∨ K k = 8 := by
  obtain ⟨a, ha, e⟩ := (hw k hk).1
  rw [e]
  match a, ha with
  | 0, _ => exact Or.inl rfl
  | 1, _ => exact Or.inr (Or.inl rfl)
  | 2, _ => exact Or.inr (Or.inr (Or.inl rfl))
  | 3, _ => exact Or.inr (Or.inr (Or.inr (Or.inl rfl)))
  | 4, _ => exact Or.inr (Or.inr (Or.inr (Or.inr (Or.inl rfl))))
  | 5, _ => exact Or.inr (Or.inr (Or.inr (Or.inr (Or.inr (Or.inl rfl)))))
  | 6, _ => exact Or.inr (Or.inr (Or.inr (Or.inr (Or.inr (Or.inr (Or.inl rfl))))))
  | 7, _ => exact Or.inr (Or.inr (Or.inr (Or.inr (Or.inr (Or.inr (Or.inr (Or.inl rfl)))))))
  | 8, _ => exact Or.inr (Or.inr (Or.inr (Or.inr (Or.inr (Or.inr (Or.inr (Or.inr rfl)))))))
  | n + 9, h => omega
theorem zPv_0 {K F G : Nat → Int32} {tx : Int32 → Int32} {tot : Int32} {an e : Nat → Int32} {k : Nat} (c : K k = 0) : zPv K F G tx tot an e k = an k := by
  unfold zPv
  rw [if_neg (fun q : K k = 1 => absurd (c.symm.trans q) (by decide)), if_neg (fun q : K k = 2 => absurd (c.symm.trans q) (by decide)), if_neg (fun q : K k = 3 => absurd (c.symm.trans q) (by decide)), if_neg (fun q : K k = 4 => absurd (c.symm.trans q) (by decide)), if_neg (fun q : K k = 5 => absurd (c.symm.trans q) (by decide)), if_neg (fun q : K k = 6 => absurd (c.symm.trans q) (by decide)), if_neg (fun q : K k = 7 => absurd (c.symm.trans q) (by decide)), if_neg (fun q : K k = 8 => absurd (c.symm.trans q) (by decide))]
theorem zPv_1 {K F G : Nat → Int32} {tx : Int32 → Int32} {tot : Int32} {an e : Nat → Int32} {k : Nat} (c : K k = 1) : zPv K F G tx tot an e k = (if (1000000000 : Int32) < e (zN (F k)) + e (zN (G k)) then 1000000000 else e (zN (F k)) + e (zN (G k))) := by
  unfold zPv
  rw [if_pos c]
theorem zPv_2 {K F G : Nat → Int32} {tx : Int32 → Int32} {tot : Int32} {an e : Nat → Int32} {k : Nat} (c : K k = 2) : zPv K F G tx tot an e k = (if e (zN (F k)) - e (zN (G k)) < 0 then 0 else e (zN (F k)) - e (zN (G k))) := by
  unfold zPv
  rw [if_neg (fun q : K k = 1 => absurd (c.symm.trans q) (by decide)), if_pos c]
theorem zPv_3 {K F G : Nat → Int32} {tx : Int32 → Int32} {tot : Int32} {an e : Nat → Int32} {k : Nat} (c : K k = 3) : zPv K F G tx tot an e k = zThou (e (zN (F k))) (G k) := by
  unfold zPv
  rw [if_neg (fun q : K k = 1 => absurd (c.symm.trans q) (by decide)), if_neg (fun q : K k = 2 => absurd (c.symm.trans q) (by decide)), if_pos c]
theorem zPv_4 {K F G : Nat → Int32} {tx : Int32 → Int32} {tot : Int32} {an e : Nat → Int32} {k : Nat} (c : K k = 4) : zPv K F G tx tot an e k = (if e (zN (G k)) < e (zN (F k)) then e (zN (G k)) else e (zN (F k))) := by
  unfold zPv
  rw [if_neg (fun q : K k = 1 => absurd (c.symm.trans q) (by decide)), if_neg (fun q : K k = 2 => absurd (c.symm.trans q) (by decide)), if_neg (fun q : K k = 3 => absurd (c.symm.trans q) (by decide)), if_pos c]
theorem zPv_5 {K F G : Nat → Int32} {tx : Int32 → Int32} {tot : Int32} {an e : Nat → Int32} {k : Nat} (c : K k = 5) : zPv K F G tx tot an e k = (if e (zN (F k)) < e (zN (G k)) then e (zN (G k)) else e (zN (F k))) := by
  unfold zPv
  rw [if_neg (fun q : K k = 1 => absurd (c.symm.trans q) (by decide)), if_neg (fun q : K k = 2 => absurd (c.symm.trans q) (by decide)), if_neg (fun q : K k = 3 => absurd (c.symm.trans q) (by decide)), if_neg (fun q : K k = 4 => absurd (c.symm.trans q) (by decide)), if_pos c]
theorem zPv_6 {K F G : Nat → Int32} {tx : Int32 → Int32} {tot : Int32} {an e : Nat → Int32} {k : Nat} (c : K k = 6) : zPv K F G tx tot an e k = tx (e (zN (F k))) := by
  unfold zPv
  rw [if_neg (fun q : K k = 1 => absurd (c.symm.trans q) (by decide)), if_neg (fun q : K k = 2 => absurd (c.symm.trans q) (by decide)), if_neg (fun q : K k = 3 => absurd (c.symm.trans q) (by decide)), if_neg (fun q : K k = 4 => absurd (c.symm.trans q) (by decide)), if_neg (fun q : K k = 5 => absurd (c.symm.trans q) (by decide)), if_pos c]
theorem zPv_7 {K F G : Nat → Int32} {tx : Int32 → Int32} {tot : Int32} {an e : Nat → Int32} {k : Nat} (c : K k = 7) : zPv K F G tx tot an e k = (if tot < e (zN (F k)) then tot else e (zN (F k))) := by
  unfold zPv
  rw [if_neg (fun q : K k = 1 => absurd (c.symm.trans q) (by decide)), if_neg (fun q : K k = 2 => absurd (c.symm.trans q) (by decide)), if_neg (fun q : K k = 3 => absurd (c.symm.trans q) (by decide)), if_neg (fun q : K k = 4 => absurd (c.symm.trans q) (by decide)), if_neg (fun q : K k = 5 => absurd (c.symm.trans q) (by decide)), if_neg (fun q : K k = 6 => absurd (c.symm.trans q) (by decide)), if_pos c]
theorem zPv_8 {K F G : Nat → Int32} {tx : Int32 → Int32} {tot : Int32} {an e : Nat → Int32} {k : Nat} (c : K k = 8) : zPv K F G tx tot an e k = (if e (zN (G k)) < e (zN (F k)) then e (zN (G k)) else e (zN (F k))) := by
  unfold zPv
  rw [if_neg (fun q : K k = 1 => absurd (c.symm.trans q) (by decide)), if_neg (fun q : K k = 2 => absurd (c.symm.trans q) (by decide)), if_neg (fun q : K k = 3 => absurd (c.symm.trans q) (by decide)), if_neg (fun q : K k = 4 => absurd (c.symm.trans q) (by decide)), if_neg (fun q : K k = 5 => absurd (c.symm.trans q) (by decide)), if_neg (fun q : K k = 6 => absurd (c.symm.trans q) (by decide)), if_neg (fun q : K k = 7 => absurd (c.symm.trans q) (by decide)), if_pos c]
theorem zPv_c {K F G : Nat → Int32} {tx : Int32 → Int32} {tot : Int32} {an : Nat → Int32} (hw : zWf K F G) {k : Nat} (hk : k < 16) {e1 e2 : Nat → Int32} (h : ∀ j, j < 16 → zUb K F G false k j → e1 j = e2 j) : zPv K F G tx tot an e1 k = zPv K F G tx tot an e2 k := by
  have hf : K k ≠ 0 → e1 (zN (F k)) = e2 (zN (F k)) := fun h0 => h _ (zWf_f hw hk h0).1 (Or.inl ⟨h0, rfl⟩)
  have hg : zTwo (K k) = true → e1 (zN (G k)) = e2 (zN (G k)) := fun h0 => h _ (zWf_g hw hk h0).1 (Or.inr ⟨h0, rfl, rfl⟩)
  rcases zK_cases hw hk with c | c | c | c | c | c | c | c | c
  · rw [zPv_0 c, zPv_0 c]
  · rw [zPv_1 c, zPv_1 c, hf (by rw [c]; decide), hg (by rw [c]; decide)]
  · rw [zPv_2 c, zPv_2 c, hf (by rw [c]; decide), hg (by rw [c]; decide)]
  · rw [zPv_3 c, zPv_3 c, hf (by rw [c]; decide)]
  · rw [zPv_4 c, zPv_4 c, hf (by rw [c]; decide), hg (by rw [c]; decide)]
  · rw [zPv_5 c, zPv_5 c, hf (by rw [c]; decide), hg (by rw [c]; decide)]
  · rw [zPv_6 c, zPv_6 c, hf (by rw [c]; decide)]
  · rw [zPv_7 c, zPv_7 c, hf (by rw [c]; decide)]
  · rw [zPv_8 c, zPv_8 c, hf (by rw [c]; decide), hg (by rw [c]; decide)]
theorem zPv_bn {K F G : Nat → Int32} {tx : Int32 → Int32} {tot : Int32} {an : Nat → Int32} (hw : zWf K F G) {k : Nat} (hk : k < 16) (htx : ∀ x, zBn x → zBn (tx x)) (htot : zBn tot) (han : zBn (an k)) {e : Nat → Int32} (h : ∀ j, j < 16 → zUb K F G false k j → zBn (e j)) : zBn (zPv K F G tx tot an e k) := by
  have hf : K k ≠ 0 → zBn (e (zN (F k))) := fun h0 => h _ (zWf_f hw hk h0).1 (Or.inl ⟨h0, rfl⟩)
  have hg : zTwo (K k) = true → zBn (e (zN (G k))) := fun h0 => h _ (zWf_g hw hk h0).1 (Or.inr ⟨h0, rfl, rfl⟩)
  have h3 := (hw k hk).2.2.2
  unfold zPv
  rcases zK_cases hw hk with c | c | c | c | c | c | c | c | c <;> rw [c] at hf hg h3 ⊢
  · simpa using han
  · obtain ⟨a, ha, ea⟩ := hf (by decide)
    obtain ⟨b, hb, eb⟩ := hg (by decide)
    rw [ea, eb, nI_add, if_pos rfl]
    split
    · exact ⟨1000000000, Nat.le_refl _, rfl⟩
    · rename_i q
      exact ⟨a + b, Nat.le_of_not_lt (fun r => q ((lt_n (a := 1000000000) (by omega) (by omega)).mpr r)), rfl⟩
  · obtain ⟨a, ha, ea⟩ := hf (by decide)
    obtain ⟨b, hb, eb⟩ := hg (by decide)
    rw [ea, eb, if_neg (by decide), if_pos rfl]
    split
    · exact zBn_0
    · rename_i q
      have : b ≤ a := Nat.le_of_not_lt (fun r => q ((n_neg ha hb).mpr r))
      exact ⟨a - b, by omega, n_sub this⟩
  · obtain ⟨a, ha, ea⟩ := hf (by decide)
    obtain ⟨b, hb, eb⟩ := h3 rfl
    rw [ea, eb]
    exact ⟨a * b / 1000, Nat.le_trans (thou_le hb) ha, n_thou ha hb⟩
  · have x := hf (by decide)
    have y := hg (by decide)
    show zBn (if e (zN (G k)) < e (zN (F k)) then e (zN (G k)) else e (zN (F k)))
    split
    · exact y
    · exact x
  · have x := hf (by decide)
    have y := hg (by decide)
    show zBn (if e (zN (F k)) < e (zN (G k)) then e (zN (G k)) else e (zN (F k)))
    split
    · exact y
    · exact x
  · exact htx _ (hf (by decide))
  · have x := hf (by decide)
    show zBn (if tot < e (zN (F k)) then tot else e (zN (F k)))
    split
    · exact htot
    · exact x
  · have x := hf (by decide)
    have y := hg (by decide)
    show zBn (if e (zN (G k)) < e (zN (F k)) then e (zN (G k)) else e (zN (F k)))
    split
    · exact y
    · exact x
/-- the lines of an order, worked out from place q on -/
def zSup (pv : (Nat → Int32) → Nat → Int32) (o : Nat → Nat) : Nat → Nat → (Nat → Int32) → Nat → Int32
  | _, 0, e => e
  | q, m + 1, e => zSup pv o (q + 1) m (upd e (o q) (pv e (o q)))
theorem upd_s {e : Nat → Int32} {k : Nat} {v : Int32} : upd e k v k = v := pk_us
theorem upd_n {e : Nat → Int32} {k j : Nat} {v : Int32} (h : j ≠ k) : upd e k v j = e j := pk_un h
theorem zSup_out {pv : (Nat → Int32) → Nat → Int32} {o : Nat → Nat} {k : Nat} : ∀ m q e, (∀ r, q ≤ r → r < q + m → o r ≠ k) → zSup pv o q m e k = e k := by
  intro m
  induction m with
  | zero => intro q e _; rfl
  | succ m ih =>
    intro q e h
    rw [zSup, ih (q + 1) _ (fun r h1 h2 => h r (by omega) (by omega)), upd_n (fun he => h q (Nat.le_refl _) (by omega) he.symm)]
theorem zSup_in {pv : (Nat → Int32) → Nat → Int32} {o : Nat → Nat} {U : Nat → Nat → Prop} (hc : ∀ k e1 e2, k < 16 → (∀ j, j < 16 → U k j → e1 j = e2 j) → pv e1 k = pv e2 k) (ho : ∀ p, p < 16 → o p < 16) (hi : ∀ p q, p < 16 → q < 16 → o p = o q → p = q) : ∀ m q e, q + m ≤ 16 → (∀ r, q ≤ r → r < q + m → ∀ j, j < 16 → U (o r) j → ∃ t, t < r ∧ o t = j) → ∀ r, q ≤ r → r < q + m → zSup pv o q m e (o r) = pv (zSup pv o q m e) (o r) := by
  intro m
  induction m with
  | zero => intro q e _ _ r h1 h2; omega
  | succ m ih =>
    intro q e hq hu r h1 h2
    rw [zSup]
    by_cases er : r = q
    · subst er
      rw [zSup_out m (r + 1) _ (fun t t1 t2 he => by have := hi t r (by omega) (by omega) he; omega), upd_s]
      refine hc _ _ _ (ho r (by omega)) (fun j hj hub => ?_)
      obtain ⟨t, ht, et⟩ := hu r (Nat.le_refl _) h2 j hj hub
      rw [zSup_out m (r + 1) _ (fun t' t1 t2 he => by have := hi t' t (by omega) (by omega) (he.trans et.symm); omega), upd_n (fun he => by have := hi t r (by omega) (by omega) (et.trans he); omega)]
    · exact ih (q + 1) _ (by omega) (fun r' a b => hu r' (by omega) (by omega)) r (by omega) (by omega)
theorem zSup_d {pv : (Nat → Int32) → Nat → Int32} {o : Nat → Nat} {U : Nat → Nat → Prop} {D : Nat → Prop} (hc : ∀ k e1 e2, k < 16 → (∀ j, j < 16 → U k j → e1 j = e2 j) → pv e1 k = pv e2 k) (ho : ∀ p, p < 16 → o p < 16) (hi : ∀ p q, p < 16 → q < 16 → o p = o q → p = q) (hD : ∀ k j, k < 16 → j < 16 → D k → U k j → D j) : ∀ m q e1 e2, q + m ≤ 16 → (∀ r, q ≤ r → r < q + m → ∀ j, j < 16 → U (o r) j → ∃ t, t < r ∧ o t = j) → (∀ r, r < q → D (o r) → e1 (o r) = e2 (o r)) → ∀ r, r < q + m → D (o r) → zSup pv o q m e1 (o r) = zSup pv o q m e2 (o r) := by
  intro m
  induction m with
  | zero => intro q e1 e2 _ _ h r hr hd; exact h r hr hd
  | succ m ih =>
    intro q e1 e2 hq hu h r hr hd
    rw [zSup, zSup]
    refine ih (q + 1) _ _ (by omega) (fun r' a b => hu r' (by omega) (by omega)) (fun t ht hdt => ?_) r (by omega) hd
    by_cases et : t = q
    · subst et
      rw [upd_s, upd_s]
      refine hc _ _ _ (ho t (by omega)) (fun j hj hub => ?_)
      obtain ⟨t', ht', et'⟩ := hu t (Nat.le_refl _) (by omega) j hj hub
      rw [← et']
      exact h t' ht' (by rw [et']; exact hD _ _ (ho t (by omega)) hj hdt hub)
    · rw [upd_n (fun he => et (hi t q (by omega) (by omega) he)), upd_n (fun he => et (hi t q (by omega) (by omega) he))]
      exact h t (by omega) hdt
theorem zSup_bn {pv : (Nat → Int32) → Nat → Int32} {o : Nat → Nat} (hb : ∀ k e, k < 16 → (∀ j, j < 16 → zBn (e j)) → zBn (pv e k)) (ho : ∀ p, p < 16 → o p < 16) : ∀ m q e, q + m ≤ 16 → (∀ j, j < 16 → zBn (e j)) → ∀ j, j < 16 → zBn (zSup pv o q m e j) := by
  intro m
  induction m with
  | zero => intro q e _ h; exact h
  | succ m ih =>
    intro q e hq h
    rw [zSup]
    refine ih (q + 1) _ (by omega) (fun j hj => ?_)
    by_cases e' : j = o q
    · rw [e', upd_s]; exact hb _ _ (ho q (by omega)) h
    · rw [upd_n e']; exact h j hj
end PSu
end
section
section PBc
/-! how many bits -/
def bcI (v0 : Int32) : Int32 :=
  let x1 := v0 - (((v0.toUInt32 >>> ((1 : Int32).toUInt32 &&& Int32.toUInt32 31)).toInt32) &&& (1431655765 : Int32))
  let x2 := (x1 &&& (858993459 : Int32)) + (((x1.toUInt32 >>> ((2 : Int32).toUInt32 &&& Int32.toUInt32 31)).toInt32) &&& (858993459 : Int32))
  let x3 := (x2 + ((x2.toUInt32 >>> ((4 : Int32).toUInt32 &&& Int32.toUInt32 31)).toInt32)) &&& (252645135 : Int32)
  let x4 := x3 + ((x3.toUInt32 >>> ((8 : Int32).toUInt32 &&& Int32.toUInt32 31)).toInt32)
  let x5 := x4 + ((x4.toUInt32 >>> ((16 : Int32).toUInt32 &&& Int32.toUInt32 31)).toInt32)
  x5 &&& (63 : Int32)
def cnt (f : Nat → Bool) : Nat → Nat
  | 0 => 0
  | n + 1 => cnt f n + if f n then 1 else 0
def swN (v : Nat) : Nat :=
  let x1 := v - ((v / 2) &&& 1431655765)
  let x2 := (x1 &&& 858993459) + ((x1 / 4) &&& 858993459)
  let x3 := (x2 + x2 / 16) &&& 252645135
  let x4 := x3 + x3 / 256
  let x5 := x4 + x4 / 65536
  x5 &&& 63
def pcN : Nat → Nat → Nat
  | 0, _ => 0
  | n + 1, v => v % 2 + pcN n (v / 2)
def swOk (v : Nat) : Bool := Nat.beq (swN v) (pcN 16 v)
theorem sw_0 : ∀ a, a < 16 → ∀ b, b < 256 → swOk (0 + (a * 256 + b)) = true := by decide +kernel
theorem sw_1 : ∀ a, a < 16 → ∀ b, b < 256 → swOk (4096 + (a * 256 + b)) = true := by decide +kernel
theorem sw_2 : ∀ a, a < 16 → ∀ b, b < 256 → swOk (8192 + (a * 256 + b)) = true := by decide +kernel
theorem sw_3 : ∀ a, a < 16 → ∀ b, b < 256 → swOk (12288 + (a * 256 + b)) = true := by decide +kernel
theorem sw_4 : ∀ a, a < 16 → ∀ b, b < 256 → swOk (16384 + (a * 256 + b)) = true := by decide +kernel
theorem sw_5 : ∀ a, a < 16 → ∀ b, b < 256 → swOk (20480 + (a * 256 + b)) = true := by decide +kernel
theorem sw_6 : ∀ a, a < 16 → ∀ b, b < 256 → swOk (24576 + (a * 256 + b)) = true := by decide +kernel
theorem sw_7 : ∀ a, a < 16 → ∀ b, b < 256 → swOk (28672 + (a * 256 + b)) = true := by decide +kernel
theorem sw_8 : ∀ a, a < 16 → ∀ b, b < 256 → swOk (32768 + (a * 256 + b)) = true := by decide +kernel
theorem sw_9 : ∀ a, a < 16 → ∀ b, b < 256 → swOk (36864 + (a * 256 + b)) = true := by decide +kernel
theorem sw_10 : ∀ a, a < 16 → ∀ b, b < 256 → swOk (40960 + (a * 256 + b)) = true := by decide +kernel
theorem sw_11 : ∀ a, a < 16 → ∀ b, b < 256 → swOk (45056 + (a * 256 + b)) = true := by decide +kernel
theorem sw_12 : ∀ a, a < 16 → ∀ b, b < 256 → swOk (49152 + (a * 256 + b)) = true := by decide +kernel
theorem sw_13 : ∀ a, a < 16 → ∀ b, b < 256 → swOk (53248 + (a * 256 + b)) = true := by decide +kernel
theorem sw_14 : ∀ a, a < 16 → ∀ b, b < 256 → swOk (57344 + (a * 256 + b)) = true := by decide +kernel
theorem sw_15 : ∀ a, a < 16 → ∀ b, b < 256 → swOk (61440 + (a * 256 + b)) = true := by decide +kernel
theorem sw_n {v : Nat} (h : v < 65536) : swN v = pcN 16 v := by
  refine Nat.eq_of_beq_eq_true ?_
  show swOk v = true
  rcases Nat.lt_or_ge v 4096 with h0 | h0
  · have := sw_0 ((v - 0) / 256) (by omega) ((v - 0) % 256) (by omega)
    rw [show 0 + ((v - 0) / 256 * 256 + (v - 0) % 256) = v by omega] at this
    exact this
  rcases Nat.lt_or_ge v 8192 with h1 | h1
  · have := sw_1 ((v - 4096) / 256) (by omega) ((v - 4096) % 256) (by omega)
    rw [show 4096 + ((v - 4096) / 256 * 256 + (v - 4096) % 256) = v by omega] at this
    exact this
  rcases Nat.lt_or_ge v 12288 with h2 | h2
  · have := sw_2 ((v - 8192) / 256) (by omega) ((v - 8192) % 256) (by omega)
    rw [show 8192 + ((v - 8192) / 256 * 256 + (v - 8192) % 256) = v by omega] at this
    exact this
  rcases Nat.lt_or_ge v 16384 with h3 | h3
  · have := sw_3 ((v - 12288) / 256) (by omega) ((v - 12288) % 256) (by omega)
    rw [show 12288 + ((v - 12288) / 256 * 256 + (v - 12288) % 256) = v by omega] at this
    exact this
  rcases Nat.lt_or_ge v 20480 with h4 | h4
  · have := sw_4 ((v - 16384) / 256) (by omega) ((v - 16384) % 256) (by omega)
    rw [show 16384 + ((v - 16384) / 256 * 256 + (v - 16384) % 256) = v by omega] at this
    exact this
  rcases Nat.lt_or_ge v 24576 with h5 | h5
  · have := sw_5 ((v - 20480) / 256) (by omega) ((v - 20480) % 256) (by omega)
    rw [show 20480 + ((v - 20480) / 256 * 256 + (v - 20480) % 256) = v by omega] at this
    exact this
  rcases Nat.lt_or_ge v 28672 with h6 | h6
  · have := sw_6 ((v - 24576) / 256) (by omega) ((v - 24576) % 256) (by omega)
    rw [show 24576 + ((v - 24576) / 256 * 256 + (v - 24576) % 256) = v by omega] at this
    exact this
  rcases Nat.lt_or_ge v 32768 with h7 | h7
  · have := sw_7 ((v - 28672) / 256) (by omega) ((v - 28672) % 256) (by omega)
    rw [show 28672 + ((v - 28672) / 256 * 256 + (v - 28672) % 256) = v by omega] at this
    exact this
  rcases Nat.lt_or_ge v 36864 with h8 | h8
  · have := sw_8 ((v - 32768) / 256) (by omega) ((v - 32768) % 256) (by omega)
    rw [show 32768 + ((v - 32768) / 256 * 256 + (v - 32768) % 256) = v by omega] at this
    exact this
  rcases Nat.lt_or_ge v 40960 with h9 | h9
  · have := sw_9 ((v - 36864) / 256) (by omega) ((v - 36864) % 256) (by omega)
    rw [show 36864 + ((v - 36864) / 256 * 256 + (v - 36864) % 256) = v by omega] at this
    exact this
  rcases Nat.lt_or_ge v 45056 with h10 | h10
  · have := sw_10 ((v - 40960) / 256) (by omega) ((v - 40960) % 256) (by omega)
    rw [show 40960 + ((v - 40960) / 256 * 256 + (v - 40960) % 256) = v by omega] at this
    exact this
  rcases Nat.lt_or_ge v 49152 with h11 | h11
  · have := sw_11 ((v - 45056) / 256) (by omega) ((v - 45056) % 256) (by omega)
    rw [show 45056 + ((v - 45056) / 256 * 256 + (v - 45056) % 256) = v by omega] at this
    exact this
  rcases Nat.lt_or_ge v 53248 with h12 | h12
  · have := sw_12 ((v - 49152) / 256) (by omega) ((v - 49152) % 256) (by omega)
    rw [show 49152 + ((v - 49152) / 256 * 256 + (v - 49152) % 256) = v by omega] at this
    exact this
  rcases Nat.lt_or_ge v 57344 with h13 | h13
  · have := sw_13 ((v - 53248) / 256) (by omega) ((v - 53248) % 256) (by omega)
    rw [show 53248 + ((v - 53248) / 256 * 256 + (v - 53248) % 256) = v by omega] at this
    exact this
  rcases Nat.lt_or_ge v 61440 with h14 | h14
  · have := sw_14 ((v - 57344) / 256) (by omega) ((v - 57344) % 256) (by omega)
    rw [show 57344 + ((v - 57344) / 256 * 256 + (v - 57344) % 256) = v by omega] at this
    exact this
  rcases Nat.lt_or_ge v 65536 with h15 | h15
  · have := sw_15 ((v - 61440) / 256) (by omega) ((v - 61440) % 256) (by omega)
    rw [show 61440 + ((v - 61440) / 256 * 256 + (v - 61440) % 256) = v by omega] at this
    exact this
  omega
end PBc
end
section
section PCn
/-! the number of lines in a group -/
theorem n_and (a b : Nat) : nI a &&& nI b = nI (a &&& b) := by
  apply Int32.toBitVec_inj.mp
  show BitVec.ofNat 32 a &&& BitVec.ofNat 32 b = BitVec.ofNat 32 (a &&& b)
  apply BitVec.eq_of_getLsbD_eq
  intro i hi
  rw [BitVec.getLsbD_and, BitVec.getLsbD_ofNat, BitVec.getLsbD_ofNat, BitVec.getLsbD_ofNat, Nat.testBit_and]
  simp [hi]
theorem bcI_n {v : Nat} (h : v < 65536) : bcI (nI v) = nI (swN v) := by
  have a1 : (v / 2) &&& 1431655765 ≤ v / 2 := Nat.and_le_left
  have e1 : nI v - ((((nI v).toUInt32 >>> ((1 : Int32).toUInt32 &&& Int32.toUInt32 31)).toInt32) &&& (1431655765 : Int32)) = nI (v - ((v / 2) &&& 1431655765)) := by
    rw [pk_ushrN (by omega) 1 1 rfl, show (1431655765 : Int32) = nI 1431655765 from rfl, n_and, show (2 : Nat) ^ 1 = 2 from rfl, n_sub (by omega)]
  have e2 : ∀ x, x < 65536 → (nI x &&& (858993459 : Int32)) + ((((nI x).toUInt32 >>> ((2 : Int32).toUInt32 &&& Int32.toUInt32 31)).toInt32) &&& (858993459 : Int32)) = nI ((x &&& 858993459) + ((x / 4) &&& 858993459)) := by
    intro x hx
    rw [pk_ushrN (by omega) 2 2 rfl, show (858993459 : Int32) = nI 858993459 from rfl, n_and, n_and, nI_add]
  have e3 : ∀ x, x < 131072 → (nI x + (((nI x).toUInt32 >>> ((4 : Int32).toUInt32 &&& Int32.toUInt32 31)).toInt32)) &&& (252645135 : Int32) = nI ((x + x / 16) &&& 252645135) := by
    intro x hx
    rw [pk_ushrN (by omega) 4 4 rfl, nI_add, show (252645135 : Int32) = nI 252645135 from rfl, n_and]
  have e4 : ∀ x, x < 1000000 → nI x + (((nI x).toUInt32 >>> ((8 : Int32).toUInt32 &&& Int32.toUInt32 31)).toInt32) = nI (x + x / 256) := by
    intro x hx
    rw [pk_ushrN (by omega) 8 8 rfl, nI_add]
  have e5 : ∀ x, x < 2000000 → nI x + (((nI x).toUInt32 >>> ((16 : Int32).toUInt32 &&& Int32.toUInt32 31)).toInt32) = nI (x + x / 65536) := by
    intro x hx
    rw [pk_ushrN (by omega) 16 16 rfl, nI_add]
  unfold bcI swN
  simp only
  generalize hy1 : v - ((v / 2) &&& 1431655765) = y1 at e1 ⊢
  rw [e1, e2 y1 (by omega)]
  have b2 : (y1 &&& 858993459) + ((y1 / 4) &&& 858993459) < 131072 := by
    have := Nat.and_le_left (n := y1) (m := 858993459)
    have := Nat.and_le_left (n := y1 / 4) (m := 858993459)
    omega
  generalize (y1 &&& 858993459) + ((y1 / 4) &&& 858993459) = y2 at b2 ⊢
  rw [e3 y2 b2]
  have b3 : (y2 + y2 / 16) &&& 252645135 < 1000000 := by
    have := Nat.and_le_left (n := y2 + y2 / 16) (m := 252645135)
    omega
  generalize (y2 + y2 / 16) &&& 252645135 = y3 at b3 ⊢
  rw [e4 y3 b3, e5 _ (by omega), show (63 : Int32) = nI 63 from rfl, n_and]
theorem cnt_sh (f : Nat → Bool) (n : Nat) : cnt f (n + 1) = (if f 0 then 1 else 0) + cnt (fun i => f (i + 1)) n := by
  induction n with
  | zero => simp [cnt]
  | succ n ih => rw [cnt, ih, cnt]; omega
theorem pcN_c : ∀ n v, pcN n v = cnt (fun i => v.testBit i) n := by
  intro n
  induction n with
  | zero => intro v; rfl
  | succ n ih =>
    intro v
    rw [pcN, ih, cnt_sh]
    congr 1
    · rw [Nat.testBit_zero]
      by_cases h : v % 2 = 1
      · simp [h]
      · have : v % 2 = 0 := by omega
        simp [this]
    · congr 1
      funext i
      rw [Nat.testBit_succ]
theorem bt_n {v i : Nat} (h : v < 65536) : bt (nI v) i = v.testBit i := by
  unfold bt
  show (BitVec.ofNat 32 v).getLsbD i = _
  rw [BitVec.getLsbD_ofNat]
  by_cases hi : i < 32
  · simp [hi]
  · rw [Nat.testBit_lt_two_pow (Nat.lt_of_lt_of_le h (Nat.le_trans (by decide : 65536 ≤ 2 ^ 16) (Nat.pow_le_pow_right (by omega) (by omega))))]
    simp
theorem bc_bits {x : Int32} (h : ∀ j, j < 32 → bt x j = true → j < 16) : bcI x = nI (cnt (bt x) 16) := by
  have hx : x = nI x.toBitVec.toNat := by
    apply Int32.toBitVec_inj.mp
    show x.toBitVec = BitVec.ofNat 32 x.toBitVec.toNat
    rw [BitVec.ofNat_toNat]; simp
  have hv : x.toBitVec.toNat < 65536 := by
    refine Nat.lt_pow_two_of_testBit (n := 16) _ (fun i hi => ?_)
    cases hb : x.toBitVec.toNat.testBit i with
    | false => rfl
    | true =>
      have hb' : bt x i = true := hb
      rcases Nat.lt_or_ge i 32 with h32 | h32
      · have := h i h32 hb'; omega
      · rw [b_big h32] at hb'; cases hb'
  generalize x.toBitVec.toNat = v at hx hv
  subst hx
  rw [bcI_n hv, sw_n hv, pcN_c]
  congr 2
  funext i
  exact (bt_n hv).symm
theorem cnt_len (f : Nat → Bool) : ∀ n, cnt f n = ((List.range n).filter f).length := by
  intro n
  induction n with
  | zero => rfl
  | succ n ih =>
    rw [cnt, ih, List.range_succ, List.filter_append, List.length_append]
    congr 1
    by_cases h : f n = true
    · simp [h]
    · simp [h]
theorem cnt_ex {f : Nat → Bool} {o : Nat → Nat} {p c : Nat} (hc : p + c ≤ 16) (ho : ∀ p, p < 16 → o p < 16) (hi : ∀ p q, p < 16 → q < 16 → o p = o q → p = q) (h1 : ∀ q, p ≤ q → q < p + c → f (o q) = true) (h2 : ∀ j, j < 16 → f j = true → ∃ q, p ≤ q ∧ q < p + c ∧ o q = j) : cnt f 16 = c := by
  rw [cnt_len]
  have nd : ((List.range c).map (fun i => o (p + i))).Nodup := by
    refine List.Pairwise.map _ (fun a b hab => hab) ?_
    refine List.Pairwise.imp_of_mem ?_ (List.nodup_range (n := c))
    intro a b ha hb hab e
    have := hi _ _ (by have := List.mem_range.mp ha; omega) (by have := List.mem_range.mp hb; omega) e
    omega
  have nf : ((List.range 16).filter f).Nodup := List.nodup_range.filter _
  have s1 : (List.range c).map (fun i => o (p + i)) ⊆ (List.range 16).filter f := by
    intro j hj
    obtain ⟨i, hi, rfl⟩ := List.mem_map.mp hj
    have := List.mem_range.mp hi
    exact List.mem_filter.mpr ⟨List.mem_range.mpr (ho _ (by omega)), h1 _ (by omega) (by omega)⟩
  have s2 : (List.range 16).filter f ⊆ (List.range c).map (fun i => o (p + i)) := by
    intro j hj
    obtain ⟨a, b⟩ := List.mem_filter.mp hj
    obtain ⟨q, q1, q2, q3⟩ := h2 j (List.mem_range.mp a) b
    exact List.mem_map.mpr ⟨q - p, List.mem_range.mpr (by omega), by rw [← q3]; congr 1; omega⟩
  have l1 := nd.length_le_of_subset s1
  have l2 := nf.length_le_of_subset s2
  rw [List.length_map, List.length_range] at l1 l2
  omega
end PCn
end
section
section PPn
/-! the plan, for values -/
def zCl (K F G : Nat → Int32) (k : Nat) : Prop := K k = 8 ∧ zR K F G k k = true
def zGp (K F G : Nat → Int32) (L k : Nat) : Prop := k = L ∨ (zR K F G L k = true ∧ zR K F G k L = true)
def zEx (K F G : Nat → Int32) (o : Nat → Nat) (p c : Nat) : Prop := 0 < c ∧ p + c ≤ 16 ∧ (∀ q, p ≤ q → q < p + c → zGp K F G (o p) (o q)) ∧ ∀ j, j < 16 → zGp K F G (o p) j → ∃ q, p ≤ q ∧ q < p + c ∧ o q = j
def zPn (K F G : Nat → Int32) (o : Nat → Nat) : Prop := zWf K F G ∧ (∀ p, p < 16 → o p < 16) ∧ (∀ p q, p < 16 → q < 16 → o p = o q → p = q) ∧ (∀ p, p < 16 → (K (o p) ≠ 0 → ∃ q, q < p ∧ o q = zN (F (o p))) ∧ (zTwo (K (o p)) = true → ¬ zCl K F G (o p) → ∃ q, q < p ∧ o q = zN (G (o p)))) ∧ (∀ p, p < 16 → zCl K F G (o p) → ∃ c, zEx K F G o p c) ∧ ∀ k, k < 16 → zCl K F G k → (∀ j, j < 16 → zR K F G k j = true → zR K F G j k = true → K j = 8 → j = k) ∧ ¬ (zR K F G k (zN (F k)) = true ∧ zR K F G (zN (F k)) k = true)
theorem zPn_pos {K F G : Nat → Int32} {o : Nat → Nat} (h : zPn K F G o) {k : Nat} (hk : k < 16) : ∃ p, p < 16 ∧ o p = k := pig16 h.2.1 h.2.2.1 hk
theorem zPn_ex {K F G : Nat → Int32} {o : Nat → Nat} (h : zPn K F G o) {p : Nat} (hp : p < 16) (h8 : K (o p) = 8) : ∃ c, zEx K F G o p c := by
  by_cases hc : zR K F G (o p) (o p) = true
  · exact h.2.2.2.2.1 p hp ⟨h8, hc⟩
  · refine ⟨1, by omega, by omega, fun q h1 h2 => Or.inl (by rw [show q = p by omega]), fun j hj hg => ⟨p, Nat.le_refl _, by omega, ?_⟩⟩
    rcases hg with e | ⟨h1, h2⟩
    · exact e.symm
    · exact absurd (zTC_tr hj h1 h2) hc
theorem zEx_n8 {K F G : Nat → Int32} {o : Nat → Nat} (h : zPn K F G o) {p c : Nat} (h8 : K (o p) = 8) (hx : zEx K F G o p c) {q : Nat} (h1 : p < q) (h2 : q < p + c) : ¬ K (o q) = 8 := by
  intro hq
  have hp16 : p < 16 := by have := hx.2.1; omega
  have hq16 : q < 16 := by have := hx.2.1; omega
  rcases hx.2.2.1 q (by omega) h2 with e | ⟨a, b⟩
  · have := h.2.2.1 q p hq16 hp16 e; omega
  · have hcl : zCl K F G (o p) := ⟨h8, zTC_tr (h.2.1 q hq16) a b⟩
    have := (h.2.2.2.2.2 (o p) (h.2.1 p hp16) hcl).1 (o q) (h.2.1 q hq16) a b hq
    have := h.2.2.1 q p hq16 hp16 this; omega
/-- what a line uses lies before it, if it is no LIMIT of a circle -/
theorem zPn_use {K F G : Nat → Int32} {o : Nat → Nat} (h : zPn K F G o) {p : Nat} (hp : p < 16) (hn : ¬ zCl K F G (o p)) : ∀ j, j < 16 → zUb K F G false (o p) j → ∃ q, q < p ∧ o q = j := by
  intro j _ hu
  rcases hu with ⟨a, e⟩ | ⟨a, _, e⟩
  · rw [e]; exact (h.2.2.2.1 p hp).1 a
  · rw [e]; exact (h.2.2.2.1 p hp).2 a hn
theorem zEx_use {K F G : Nat → Int32} {o : Nat → Nat} (h : zPn K F G o) {p c : Nat} (h8 : K (o p) = 8) (hx : zEx K F G o p c) : ∀ r, p + 1 ≤ r → r < p + 1 + (c - 1) → ∀ j, j < 16 → zUb K F G false (o r) j → ∃ t, t < r ∧ o t = j := by
  intro r h1 h2
  have := hx.2.1
  exact zPn_use h (by omega) (fun q => zEx_n8 h h8 hx (by omega) (by have := hx.1; omega) q.1)
/-- the second line of a circle's LIMIT lies in the circle -/
theorem zCl_g {K F G : Nat → Int32} {o : Nat → Nat} (h : zPn K F G o) {k : Nat} (hk : k < 16) (hc : zCl K F G k) : zGp K F G k (zN (G k)) := by
  have hw := h.1
  have ht : zTwo (K k) = true := by rw [hc.1]; decide
  have hg := (zWf_g hw hk ht).1
  have hkG : zR K F G k (zN (G k)) = true := zR_u hw hk (Or.inr ⟨ht, rfl, rfl⟩)
  have hF := (h.2.2.2.2.2 k hk hc).2
  have hkF : zR K F G k (zN (F k)) = true := zR_u hw hk (Or.inl ⟨zTwo_ne ht, rfl⟩)
  rcases zTC_first hc.2 with hb | ⟨m, hm, hb, hr⟩
  · rcases (use_bt hw hk false (by omega)).mp hb with ⟨_, e⟩ | ⟨_, _, e⟩
    · exact absurd ⟨hkF, by rw [← e]; exact hc.2⟩ hF
    · exact Or.inl e.symm
  · rcases (use_bt hw hk false (by omega)).mp hb with ⟨_, e⟩ | ⟨_, _, e⟩
    · exact absurd ⟨hkF, by rw [← e]; exact hr⟩ hF
    · exact Or.inr ⟨hkG, by rw [← e]; exact hr⟩
theorem zSup_last {pv : (Nat → Int32) → Nat → Int32} {o : Nat → Nat} : ∀ m q e, zSup pv o q (m + 1) e = upd (zSup pv o q m e) (o (q + m)) (pv (zSup pv o q m e) (o (q + m))) := by
  intro m
  induction m with
  | zero => intro q e; rfl
  | succ m ih =>
    intro q e
    rw [zSup, ih (q + 1), zSup, show q + 1 + m = q + (m + 1) by omega]
/-- cell k replaced -/
def zSt (s : zS) (k : Nat) (f : Nat → Int32) : zS := fun i => if i = k then f else s i
theorem zSt_s {s : zS} {k : Nat} {f : Nat → Int32} : zSt s k f k = f := by unfold zSt; rw [if_pos rfl]
theorem zSt_n {s : zS} {k c : Nat} {f : Nat → Int32} (h : c ≠ k) : zSt s k f c = s c := by unfold zSt; rw [if_neg h]
theorem zSt_u {s : zS} {k j : Nat} {f : Nat → Int32} {v : Int32} : zU (zSt s k f) k j v = zSt s k (upd f j v) := by
  funext i
  by_cases h : i = k
  · subst h; unfold zU; rw [if_pos rfl, zSt_s, zSt_s]
  · rw [zU_ne h, zSt_n h, zSt_n h]
theorem zSt_i {s : zS} {k : Nat} : zSt s k (s k) = s := by
  funext i
  by_cases h : i = k
  · subst h; rw [zSt_s]
  · rw [zSt_n h]
def zAn (an : Nat → Int32) (r : Int32) : Nat → Int32 := fun k => if k < 16 ∧ nI k = r then an k + 1 else an k
theorem zAn_m {an : Nat → Int32} : zAn an (-1) = an := by
  funext k
  unfold zAn
  rw [if_neg (fun q => zn_L q.1 q.2)]
theorem zAn_u {an : Nat → Int32} {L : Nat} (hL : L < 16) : zAn an (nI L) = upd an L (an L + 1) := by
  funext k
  unfold zAn
  by_cases h : k = L
  · subst h; rw [if_pos ⟨hL, rfl⟩, pk_us]
  · rw [if_neg (fun q => h ((eq_n (by omega) (by omega)).mp q.2)), pk_un h]
/-- values can be worked out -/
def zVs (n : Nat) (s : zS) (tx : Int32 → Int32) (tot : Int32) : Prop := zPn (s 2) (s 3) (s 4) (zo s) ∧ (∀ p, p < 16 → s 9 p = nI (zo s p)) ∧ (∀ i, i < 16 → ∀ j, j < 32 → bt (s 7 i) j = zR (s 2) (s 3) (s 4) i j) ∧ (∀ i, i < 16 → ∀ j, j < 32 → bt (s 8 i) j = zGr (zR (s 2) (s 3) (s 4)) i j) ∧ (∀ s', s' 10 = s 10 → s' 11 = s 11 → s' 12 = s 12 → ∀ x, zBn x → m_X1_tax n x s' = some (tx x, s')) ∧ (∀ s', s' 13 = s 13 → s' 14 = s 14 → m_X0_total n s' = some (tot, s')) ∧ (∀ x, zBn x → zBn (tx x)) ∧ zBn tot ∧ ∀ k, k < 16 → ∃ a, a ≤ 1000000 ∧ s 5 k = nI a
theorem zVs_c {n : Nat} {s s' : zS} {tx : Int32 → Int32} {tot : Int32} (h : zVs n s tx tot) (hf : ∀ c, c < 15 → s' c = s c) : zVs n s' tx tot := by
  obtain ⟨a, b, c, d, e, f, g, i, j⟩ := h
  have z9 : zo s' = zo s := by funext p; unfold zo; rw [hf 9 (by omega)]
  unfold zVs
  rw [hf 2 (by omega), hf 3 (by omega), hf 4 (by omega), hf 5 (by omega), hf 7 (by omega), hf 8 (by omega), hf 9 (by omega), hf 10 (by omega), hf 11 (by omega), hf 12 (by omega), hf 13 (by omega), hf 14 (by omega), z9]
  exact ⟨a, b, c, d, e, f, g, i, j⟩
theorem zAn_bn {s : zS} {r : Int32} (h : ∀ k, k < 16 → ∃ a, a ≤ 1000000 ∧ s 5 k = nI a) {k : Nat} (hk : k < 16) : zBn (zAn (s 5) r k) := by
  obtain ⟨a, ha, e⟩ := h k hk
  unfold zAn
  split
  · rw [e, nI_s]; exact ⟨a + 1, by omega, rfl⟩
  · rw [e]; exact ⟨a, by omega, rfl⟩
theorem p_lineAt_n {n p : Nat} (hp : p < 16) {s : zS} (h : ∀ p, p < 16 → s 9 p = nI (zo s p)) : m_X4_lineAt n (nI p) s = some (nI (zo s p), s) := by
  rw [p_lineAt, a16 hp, h p hp]
/-- the number of a group's lines -/
theorem p_bits {n : Nat} {s : zS} {tx : Int32 → Int32} {tot : Int32} (hV : zVs n s tx tot) {p c : Nat} (_h8 : s 2 (zo s p) = 8) (hx : zEx (s 2) (s 3) (s 4) (zo s) p c) (s' : zS) : m_J6_bitCount_0f7a4 n (s 8 (zo s p)) s' = some (nI c, s') := by
  obtain ⟨hP, _, _, h8', _⟩ := hV
  have hp16 : p < 16 := by have := hx.2.1; have := hx.1; omega
  have hL := hP.2.1 p hp16
  have hb : ∀ j, j < 16 → (bt (s 8 (zo s p)) j = true ↔ zGp (s 2) (s 3) (s 4) (zo s p) j) := by
    intro j hj
    rw [h8' _ hL j (by omega)]
    unfold zGr zGp
    simp [hj]
  have e : m_J6_bitCount_0f7a4 n (s 8 (zo s p)) s' = some (bcI (s 8 (zo s p)), s') := rfl
  rw [e, bc_bits (fun j hj h => by
    rw [h8' _ hL j hj] at h
    unfold zGr at h
    rcases Bool.or_eq_true_iff.mp h with q | q
    · rw [of_decide_eq_true q]; exact hL
    · exact of_decide_eq_true (Bool.and_eq_true_iff.mp q).1), cnt_ex (o := zo s) (p := p) (c := c) hx.2.1 hP.2.1 hP.2.2.1 (fun q h1 h2 => (hb _ (hP.2.1 q (by have := hx.2.1; omega))).mpr (hx.2.2.1 q h1 h2)) (fun j hj hbj => hx.2.2.2 j hj ((hb j hj).mp hbj))]
/-- the plan that the class made serves -/
theorem zPlan_Pn {b s : zS} (hw : zWf (b 2) (b 3) (b 4)) (h : zPlan b s) : zPn (b 2) (b 3) (b 4) (zo s) ∧ (∀ p, p < 16 → s 9 p = nI (zo s p)) ∧ ∀ i, i < 16 → zR (b 2) (b 3) (b 4) i i = true → ∃ v L, zCir (zR (b 2) (b 3) (b 4)) i v ∧ zCG (b 2) (b 3) (b 4) v L := by
  obtain ⟨_, _, m1, m2, m3, m4, m5, m6⟩ := h
  simp only [if_neg (show ¬ (2 : Nat) = 7 by decide), if_neg (show ¬ (2 : Nat) = 8 by decide), if_neg (show ¬ (3 : Nat) = 7 by decide), if_neg (show ¬ (3 : Nat) = 8 by decide), if_neg (show ¬ (4 : Nat) = 7 by decide), if_neg (show ¬ (4 : Nat) = 8 by decide)] at m4 m5 m6
  obtain ⟨u1, u2, u3, u4, u5⟩ := m2
  have all : ∀ i, i < 16 → bt (s 6 4) i = true := fun i hi => by
    obtain ⟨p, hp, e⟩ := pig16 (o := zo s) (fun p hp => (u3 p hp).1) u4 hi
    exact (u5 i (by omega)).mpr ⟨p, hp, e⟩
  refine ⟨⟨hw, fun p hp => (u3 p hp).1, u4, fun p hp => ?_, fun p hp hc => ?_, fun k hk hc => ?_⟩, fun p hp => (u3 p hp).2, fun i hi hc => m6 i hi (all i hi) hc⟩
  · obtain ⟨a, b⟩ := m4 p hp
    exact ⟨a, b⟩
  · obtain ⟨c, c0, c1, c2, c3⟩ := m5 p hp hc.1 hc.2
    exact ⟨c, c0, c1, fun q q1 q2 => Or.inr (c2 q q1 q2), fun j hj hg => by
      rcases hg with e | ⟨g1, g2⟩
      · exact ⟨p, Nat.le_refl _, by omega, e.symm⟩
      · exact c3 j hj g1 g2⟩
  · obtain ⟨v, L, hv, hO, hF, _⟩ := m6 k hk (all k hk) hc.2
    have hvb : ∀ j, j < 16 → (bt v j = true ↔ zR (b 2) (b 3) (b 4) k j = true ∧ zR (b 2) (b 3) (b 4) j k = true) := by
      intro j hj
      rw [hv j (by omega)]; simp [hj]
    have hkL : k = L := (hO.2 k hk).mp ⟨(hvb k hk).mpr ⟨hc.2, hc.2⟩, hc.1⟩
    subst hkL
    have hf := (zWf_f hw hk (by rw [hc.1]; decide)).1
    exact ⟨fun j hj h1 h2 h8 => (hO.2 j hj).mp ⟨(hvb j hj).mpr ⟨h1, h2⟩, h8⟩, fun q => hF ((hvb _ hf).mpr q)⟩
end PPn
end
section
section PVd
/-! what the values are -/
def zVq (K F G : Nat → Int32) (o : Nat → Nat) (pv : (Nat → Int32) → Nat → Int32) (e : Nat → Int32) (p : Nat) : Prop := (¬ zCl K F G (o p) → e (o p) = pv e (o p)) ∧ (zCl K F G (o p) → ∃ c, zEx K F G o p c ∧ e (o p) = zHl (fun mid => zSup pv o (p + 1) (c - 1) (upd e (o p) mid) (zN (G (o p)))) 31 0 (e (zN (F (o p)))))
theorem zVq_c {K F G : Nat → Int32} {o : Nat → Nat} {pv : (Nat → Int32) → Nat → Int32} (hP : zPn K F G o) (hc : ∀ k e1 e2, k < 16 → (∀ j, j < 16 → zUb K F G false k j → e1 j = e2 j) → pv e1 k = pv e2 k) {e1 e2 : Nat → Int32} {p : Nat} (hp : p < 16) (h : ∀ q, q ≤ p → e2 (o q) = e1 (o q)) (hv : zVq K F G o pv e1 p) : zVq K F G o pv e2 p := by
  have hk := hP.2.1 p hp
  refine ⟨fun hn => ?_, fun hcl => ?_⟩
  · rw [h p (Nat.le_refl _), hv.1 hn]
    refine hc _ _ _ hk (fun j hj hu => ?_)
    obtain ⟨q, hq, e⟩ := zPn_use hP hp hn j hj hu
    rw [← e, h q (by omega)]
  · obtain ⟨c, hx, ev⟩ := hv.2 hcl
    refine ⟨c, hx, ?_⟩
    have hF : e2 (zN (F (o p))) = e1 (zN (F (o p))) := by
      obtain ⟨q, hq, e⟩ := (hP.2.2.2.1 p hp).1 (by rw [hcl.1]; decide)
      rw [← e, h q (by omega)]
    rw [h p (Nat.le_refl _), ev, hF]
    congr 1
    funext mid
    have hg := (zWf_g hP.1 hk (by rw [hcl.1]; decide)).1
    obtain ⟨r, r1, r2, r3⟩ := hx.2.2.2 _ hg (zCl_g hP hk hcl)
    have hs := hx.2.1
    have h0 := hx.1
    rw [← r3]
    refine zSup_d (D := fun _ => True) (U := zUb K F G false) hc hP.2.1 hP.2.2.1 (fun _ _ _ _ _ _ => trivial) (c - 1) (p + 1) _ _ (by omega) (zEx_use hP hcl.1 hx) (fun t ht _ => ?_) r (by omega) trivial
    by_cases et : t = p
    · rw [et, upd_s, upd_s]
    · rw [upd_n (fun q => et (hP.2.2.1 t p (by omega) hp q)), upd_n (fun q => et (hP.2.2.1 t p (by omega) hp q)), h t (by omega)]
end PVd
end
section
section PV
/-! the class works out its values -/
theorem p_plain {n k : Nat} {s : zS} {tx : Int32 → Int32} {tot : Int32} (hV : zVs n s tx tot) (hb : ∀ k, k < 16 → zBn (s 22 k)) (hk : k < 16) : m_X6_plain n (nI k) s = some (zPv (s 2) (s 3) (s 4) tx tot (zAn (s 5) (s 21 5)) (s 22) k, s) := by
  obtain ⟨hP, h9, h7, h8, htx, htot, _, _, _⟩ := hV
  have hw := hP.1
  have hf : s 2 k ≠ 0 → zAt s 22 16 (s 3 k) = s 22 (zN (s 3 k)) ∧ zN (s 3 k) < 16 := fun h0 => by
    obtain ⟨f1, f2⟩ := zWf_f hw hk h0
    exact ⟨by rw [f2, a16 f1, ← f2], f1⟩
  have hg : zTwo (s 2 k) = true → zAt s 22 16 (s 4 k) = s 22 (zN (s 4 k)) ∧ zN (s 4 k) < 16 := fun h0 => by
    obtain ⟨f1, f2⟩ := zWf_g hw hk h0
    exact ⟨by rw [f2, a16 f1, ← f2], f1⟩
  unfold m_X6_plain
  rw [p_first, zBd_e, a16 hk, p_of, zBd_e, p_second, zBd_e, a16 hk, p_kind, zBd_e, a16 hk]
  rcases zK_cases hw hk with c | c | c | c | c | c | c | c | c
  · rw [zPv_0 c, c, if_neg (by decide), if_neg (by decide), if_neg (by decide), if_neg (by decide), if_neg (by decide), if_neg (by decide), if_neg (by decide), if_neg (by decide)]
    unfold zAn
    by_cases hr : nI k = s 21 5
    · rw [if_pos hr, p_given, zBd_e, a16 hk, if_pos ⟨hk, hr⟩]; rfl
    · rw [if_neg hr, p_given, zBd_e, a16 hk, if_neg (fun q : k < 16 ∧ nI k = s 21 5 => hr q.2)]; rfl
  · rw [zPv_1 c, c, if_pos rfl, p_of, zBd_e, (hf (by rw [c]; decide)).1, (hg (by rw [c]; decide)).1]; rfl
  · rw [zPv_2 c, c, if_neg (by decide), if_pos rfl, p_of, zBd_e, (hf (by rw [c]; decide)).1, (hg (by rw [c]; decide)).1]; rfl
  · rw [zPv_3 c, c, if_neg (by decide), if_neg (by decide), if_pos rfl, (hf (by rw [c]; decide)).1]; rfl
  · rw [zPv_4 c, c, if_neg (by decide), if_neg (by decide), if_neg (by decide), if_pos rfl, p_of, zBd_e, (hf (by rw [c]; decide)).1, (hg (by rw [c]; decide)).1]; rfl
  · rw [zPv_5 c, c, if_neg (by decide), if_neg (by decide), if_neg (by decide), if_neg (by decide), if_pos rfl, p_of, zBd_e, (hf (by rw [c]; decide)).1, (hg (by rw [c]; decide)).1]; rfl
  · rw [zPv_6 c, c, if_neg (by decide), if_neg (by decide), if_neg (by decide), if_neg (by decide), if_neg (by decide), if_pos rfl, (hf (by rw [c]; decide)).1, htx s rfl rfl rfl _ (hb _ (hf (by rw [c]; decide)).2), zBd_e]; rfl
  · rw [zPv_7 c, c, if_neg (by decide), if_neg (by decide), if_neg (by decide), if_neg (by decide), if_neg (by decide), if_neg (by decide), if_pos rfl, htot s rfl rfl, zBd_e, (hf (by rw [c]; decide)).1]; rfl
  · rw [zPv_8 c, c, if_neg (by decide), if_neg (by decide), if_neg (by decide), if_neg (by decide), if_neg (by decide), if_neg (by decide), if_neg (by decide), if_pos rfl, p_of, zBd_e, (hf (by rw [c]; decide)).1, (hg (by rw [c]; decide)).1]; rfl
theorem p_suppose {n p c : Nat} (hn : 100 ≤ n) {s : zS} {tx : Int32 → Int32} {tot v : Int32} (hV : zVs n s tx tot) (hb : ∀ k, k < 16 → zBn (s 22 k)) (hv : zBn v) (h8 : s 2 (zo s p) = 8) (hx : zEx (s 2) (s 3) (s 4) (zo s) p c) : m_X6_suppose n (nI p) v s = some (0, zSt s 22 (zSup (zPv (s 2) (s 3) (s 4) tx tot (zAn (s 5) (s 21 5))) (zo s) (p + 1) (c - 1) (upd (s 22) (zo s p) v))) ∧ ∀ k, k < 16 → zBn (zSup (zPv (s 2) (s 3) (s 4) tx tot (zAn (s 5) (s 21 5))) (zo s) (p + 1) (c - 1) (upd (s 22) (zo s p) v) k) := by
  have hP := hV.1
  have hc0 := hx.1
  have hc1 := hx.2.1
  have hL := hP.2.1 p (by omega)
  have bnd : ∀ m, p + 1 + m ≤ 16 → ∀ k, k < 16 → zBn (zSup (zPv (s 2) (s 3) (s 4) tx tot (zAn (s 5) (s 21 5))) (zo s) (p + 1) m (upd (s 22) (zo s p) v) k) := fun m hm => zSup_bn (fun k e hk he => zPv_bn hP.1 hk hV.2.2.2.2.2.2.1 hV.2.2.2.2.2.2.2.1 (zAn_bn hV.2.2.2.2.2.2.2.2 hk) (fun j hj _ => he j hj)) hP.2.1 m (p + 1) _ hm (fun j hj => by
    by_cases e : j = zo s p
    · rw [e, upd_s]; exact hv
    · rw [upd_n e]; exact hb j hj)
  obtain ⟨s2, f1, hf1, hI, e1⟩ := for_up (fun f i s' => m_X6_suppose_j38 n f (nI (p + c)) (nI (p + 1 + i)) s') (fun i s' => s' = zSt s 22 (zSup (zPv (s 2) (s 3) (s 4) tx tot (zAn (s 5) (s 21 5))) (zo s) (p + 1) i (upd (s 22) (zo s p) v))) (c - 1) (by
    rintro f i s' hi rfl
    refine ⟨_, rfl, ?_⟩
    show m_X6_suppose_j38 n (f + 1) (nI (p + c)) (nI (p + 1 + i)) _ = m_X6_suppose_j38 n f (nI (p + c)) (nI (p + 1 + (i + 1))) _
    have hV' : zVs n (zSt s 22 (zSup (zPv (s 2) (s 3) (s 4) tx tot (zAn (s 5) (s 21 5))) (zo s) (p + 1) i (upd (s 22) (zo s p) v))) tx tot := zVs_c hV (fun c hc => zSt_n (by omega))
    have ho := hP.2.1 (p + 1 + i) (by omega)
    have z9 : zo (zSt s 22 (zSup (zPv (s 2) (s 3) (s 4) tx tot (zAn (s 5) (s 21 5))) (zo s) (p + 1) i (upd (s 22) (zo s p) v))) (p + 1 + i) = zo s (p + 1 + i) := by unfold zo; rw [zSt_n (by decide)]
    rw [m_X6_suppose_j38, if_neg (nI_ge (by omega) (by omega)), p_lineAt_n (by omega) hV'.2.1, zBd_e, z9, p_plain hV' (by rw [zSt_s]; exact bnd i (by omega)) ho, zBd_e, p_put ho (by decide), zBd_e, zLt_e, nI_s, zSt_u, zSt_s, zSt_n (by decide), zSt_n (by decide), zSt_n (by decide), zSt_n (by decide), zSt_n (by decide), zSup_last]; rfl) (c - 1) n 0 (zSt s 22 (upd (s 22) (zo s p) v)) (by omega) (by omega) rfl
  subst hI
  obtain ⟨f1, rfl⟩ : ∃ g, f1 = g + 1 := ⟨f1 - 1, by omega⟩
  refine ⟨?_, bnd (c - 1) (by omega)⟩
  have e8 : zSt s 22 (upd (s 22) (zo s p) v) 8 = s 8 := zSt_n (by decide)
  unfold m_X6_suppose
  rw [p_lineAt_n (by omega) hV.2.1, zBd_e, p_put hL (by decide), zBd_e, p_groupOf, zBd_e, a16 hL, show zU s 22 (zo s p) v = zSt s 22 (upd (s 22) (zo s p) v) from (by rw [← zSt_u, zSt_i]), e8, p_bits hV h8 hx, zBd_e, zLt_e, zLt_e, nI_add, nI_s]
  refine (show _ = _ from e1).trans ?_
  show m_X6_suppose_j38 n (f1 + 1) (nI (p + c)) (nI (p + 1 + (c - 1))) _ = _
  rw [m_X6_suppose_j38, if_pos (nI_le (by omega) (by omega))]; rfl
theorem p_greatest {n p c : Nat} (hn : 100 ≤ n) {s : zS} {tx : Int32 → Int32} {tot : Int32} (hV : zVs n s tx tot) (hb : ∀ k, k < 16 → zBn (s 22 k)) (hcl : zCl (s 2) (s 3) (s 4) (zo s p)) (hx : zEx (s 2) (s 3) (s 4) (zo s) p c) : ∃ e', m_X6_greatest n (nI p) s = some (zHl (fun mid => zSup (zPv (s 2) (s 3) (s 4) tx tot (zAn (s 5) (s 21 5))) (zo s) (p + 1) (c - 1) (upd (s 22) (zo s p) mid) (zN (s 4 (zo s p)))) 31 0 (s 22 (zN (s 3 (zo s p)))), zSt s 22 e') ∧ (∀ q, q < p → e' (zo s q) = s 22 (zo s q)) ∧ ∀ k, k < 16 → zBn (e' k) := by
  have hP := hV.1
  have hc0 := hx.1
  have hc1 := hx.2.1
  have hL := hP.2.1 p (by omega)
  obtain ⟨f1, f2⟩ := zWf_f hP.1 hL (by rw [hcl.1]; decide)
  obtain ⟨g1, g2⟩ := zWf_g hP.1 hL (by rw [hcl.1]; decide)
  obtain ⟨a, ha, ea⟩ := hb _ f1
  obtain ⟨r, r1, r2, r3⟩ := hx.2.2.2 _ g1 (zCl_g hP hL hcl)
  -- a supposition shows the same, whatever lies behind
  have same : ∀ e' mid, (∀ q, q < p → e' (zo s q) = s 22 (zo s q)) → zSup (zPv (s 2) (s 3) (s 4) tx tot (zAn (s 5) (s 21 5))) (zo s) (p + 1) (c - 1) (upd e' (zo s p) mid) (zN (s 4 (zo s p))) = zSup (zPv (s 2) (s 3) (s 4) tx tot (zAn (s 5) (s 21 5))) (zo s) (p + 1) (c - 1) (upd (s 22) (zo s p) mid) (zN (s 4 (zo s p))) := by
    intro e' mid he
    rw [← r3]
    refine zSup_d (D := fun _ => True) (U := zUb (s 2) (s 3) (s 4) false) (fun k e1 e2 hk h => zPv_c hP.1 hk h) hP.2.1 hP.2.2.1 (fun _ _ _ _ _ _ => trivial) (c - 1) (p + 1) _ _ (by omega) (zEx_use hP hcl.1 hx) (fun t ht _ => ?_) r (by omega) trivial
    by_cases et : t = p
    · rw [et, upd_s, upd_s]
    · rw [upd_n (fun q => et (hP.2.2.1 t p (by omega) (by omega) q)), upd_n (fun q => et (hP.2.2.1 t p (by omega) (by omega) q)), he t (by omega)]
  have loop : ∀ d f lo hi t e', t + d = 31 → d < f → lo ≤ 1000000000 → hi ≤ 1000000000 → (∀ q, q < p → e' (zo s q) = s 22 (zo s q)) → (∀ k, k < 16 → zBn (e' k)) → ∃ e'', m_X6_greatest_j28 n f (nI p) (nI (zo s p)) (nI lo) (nI hi) (nI t) (zSt s 22 e') = some (zHl (fun mid => zSup (zPv (s 2) (s 3) (s 4) tx tot (zAn (s 5) (s 21 5))) (zo s) (p + 1) (c - 1) (upd (s 22) (zo s p) mid) (zN (s 4 (zo s p)))) d (nI lo) (nI hi), zSt s 22 e'') ∧ (∀ q, q < p → e'' (zo s q) = s 22 (zo s q)) ∧ ∀ k, k < 16 → zBn (e'' k) := by
    intro d
    induction d with
    | zero =>
      intro f lo hi t e' ht hf _ _ h1 h2
      obtain ⟨f, rfl⟩ : ∃ g, f = g + 1 := ⟨f - 1, by omega⟩
      refine ⟨e', ?_, h1, h2⟩
      rw [m_X6_greatest_j28, if_pos (show (31 : Int32) ≤ nI t from nI_le (a := 31) (by omega) (by omega))]; rfl
    | succ d ih =>
      intro f lo hi t e' ht hf hlo hhi h1 h2
      obtain ⟨f, rfl⟩ : ∃ g, f = g + 1 := ⟨f - 1, by omega⟩
      rcases (Nat.lt_or_ge lo hi).symm with hge | hlt
      · refine ⟨e', ?_, h1, h2⟩
        rw [zHl_d hge hlo, m_X6_greatest_j28, if_neg (show ¬ (31 : Int32) ≤ nI t from nI_ge (b := 31) (by omega) (by omega)), if_pos (nI_le hge (by omega))]; rfl
      · have hV' : zVs n (zSt s 22 e') tx tot := zVs_c hV (fun c hc => zSt_n (by omega))
        have z9 : zo (zSt s 22 e') = zo s := by funext q; unfold zo; rw [zSt_n (by decide)]
        have q2 : zSt s 22 e' 2 = s 2 := zSt_n (by decide)
        have q3 : zSt s 22 e' 3 = s 3 := zSt_n (by decide)
        have q4 : zSt s 22 e' 4 = s 4 := zSt_n (by decide)
        have q5 : zSt s 22 e' 5 = s 5 := zSt_n (by decide)
        have qr : zSt s 22 e' 21 = s 21 := zSt_n (by decide)
        obtain ⟨es, eb⟩ := p_suppose (v := nI (lo + (hi - lo + 1) / 2)) hn hV' (by rw [zSt_s]; exact h2) ⟨_, by omega, rfl⟩ (p := p) (c := c) (by rw [z9, q2]; exact hcl.1) (by rw [z9, q2, q3, q4]; exact hx)
        rw [z9, q2, q3, q4, q5, qr, zSt_s] at es eb
        have ag : ∀ q, q < p → zSup (zPv (s 2) (s 3) (s 4) tx tot (zAn (s 5) (s 21 5))) (zo s) (p + 1) (c - 1) (upd e' (zo s p) (nI (lo + (hi - lo + 1) / 2))) (zo s q) = s 22 (zo s q) := by
          intro q hq
          rw [zSup_out _ _ _ (fun r' a b e => by have := hP.2.2.1 r' q (by omega) (by omega) e; omega), upd_n (fun e => by have := hP.2.2.1 q p (by omega) (by omega) e; omega)]
          exact h1 q hq
        have zz : zSt (zSt s 22 e') 22 (zSup (zPv (s 2) (s 3) (s 4) tx tot (zAn (s 5) (s 21 5))) (zo s) (p + 1) (c - 1) (upd e' (zo s p) (nI (lo + (hi - lo + 1) / 2)))) = zSt s 22 (zSup (zPv (s 2) (s 3) (s 4) tx tot (zAn (s 5) (s 21 5))) (zo s) (p + 1) (c - 1) (upd e' (zo s p) (nI (lo + (hi - lo + 1) / 2)))) := by
          funext i
          by_cases h : i = 22
          · subst h; rw [zSt_s, zSt_s]
          · rw [zSt_n h, zSt_n h, zSt_n h]
        rw [zz] at es
        rw [zHl_s hlt hhi, m_X6_greatest_j28, if_neg (show ¬ (31 : Int32) ≤ nI t from nI_ge (b := 31) (by omega) (by omega)), if_neg (nI_ge hlt (by omega)), zLt_e, mid_c hlt hhi, es, zBd_e, p_second, zBd_e, a16 hL, zSt_n (by decide), p_of, zBd_e]
        rw [show zAt (zSt s 22 (zSup (zPv (s 2) (s 3) (s 4) tx tot (zAn (s 5) (s 21 5))) (zo s) (p + 1) (c - 1) (upd e' (zo s p) (nI (lo + (hi - lo + 1) / 2))))) 22 16 (s 4 (zo s p)) = zSup (zPv (s 2) (s 3) (s 4) tx tot (zAn (s 5) (s 21 5))) (zo s) (p + 1) (c - 1) (upd (s 22) (zo s p) (nI (lo + (hi - lo + 1) / 2))) (zN (s 4 (zo s p))) from (by rw [g2, a16 g1, zSt_s, ← g2]; exact same e' _ h1)]
        by_cases hcmp : zSup (zPv (s 2) (s 3) (s 4) tx tot (zAn (s 5) (s 21 5))) (zo s) (p + 1) (c - 1) (upd (s 22) (zo s p) (nI (lo + (hi - lo + 1) / 2))) (zN (s 4 (zo s p))) < nI (lo + (hi - lo + 1) / 2)
        · rw [if_pos hcmp, if_pos hcmp, zLt_e, zLt_e, nI_s, n_s1 (by omega)]
          exact ih f lo _ (t + 1) _ (by omega) (by omega) hlo (by omega) ag eb
        · rw [if_neg hcmp, if_neg hcmp, zLt_e, nI_s]
          exact ih f _ hi (t + 1) _ (by omega) (by omega) (by omega) hhi ag eb
  obtain ⟨e'', x1, x2, x3⟩ := loop 31 n 0 a 0 (s 22) rfl (by omega) (by omega) ha (fun _ _ => rfl) hb
  refine ⟨e'', ?_, x2, x3⟩
  rw [zSt_i] at x1
  unfold m_X6_greatest
  rw [p_lineAt_n (by omega) hV.2.1, zBd_e, p_first, zBd_e, a16 hL, p_of, zBd_e, f2, a16 f1, ← f2, ea]
  exact x1
theorem p_workOut {n : Nat} (hn : 100 ≤ n) {s : zS} {tx : Int32 → Int32} {tot : Int32} (r : Int32) (hV : zVs n s tx tot) (hb : ∀ k, k < 16 → zBn (s 22 k)) : ∃ e, m_X6_workOut n r s = some (0, zSt (zU s 21 5 r) 22 e) ∧ (∀ k, k < 16 → zBn (e k)) ∧ ∀ p, p < 16 → zVq (s 2) (s 3) (s 4) (zo s) (zPv (s 2) (s 3) (s 4) tx tot (zAn (s 5) r)) e p := by
  have hP := hV.1
  obtain ⟨e, f1, hf1, ⟨i1, i2⟩, e1⟩ := for_up (fun f p (e : Nat → Int32) => m_X6_workOut_j7 n f (nI p) (zSt (zU s 21 5 r) 22 e)) (fun p e => (∀ k, k < 16 → zBn (e k)) ∧ ∀ q, q < p → zVq (s 2) (s 3) (s 4) (zo s) (zPv (s 2) (s 3) (s 4) tx tot (zAn (s 5) r)) e q) 16 (by
    rintro f p e hp ⟨h1, h2⟩
    have hL := hP.2.1 p hp
    have fr : ∀ c, c < 15 → zSt (zU s 21 5 r) 22 e c = s c := fun c hc => by rw [zSt_n (by omega), zU_ne (by omega)]
    have hV' : zVs n (zSt (zU s 21 5 r) 22 e) tx tot := zVs_c hV fr
    have z9 : zo (zSt (zU s 21 5 r) 22 e) = zo s := by funext q; unfold zo; rw [fr 9 (by decide)]
    have er : zSt (zU s 21 5 r) 22 e 21 5 = r := by rw [zSt_n (by decide), zU_eq]
    have hb' : ∀ k, k < 16 → zBn (zSt (zU s 21 5 r) 22 e 22 k) := by rw [zSt_s]; exact h1
    -- a plain line
    have plain : ¬ zCl (s 2) (s 3) (s 4) (zo s p) → ∃ e', ((∀ k, k < 16 → zBn (e' k)) ∧ ∀ q, q < p + 1 → zVq (s 2) (s 3) (s 4) (zo s) (zPv (s 2) (s 3) (s 4) tx tot (zAn (s 5) r)) e' q) ∧ m_X6_workOut_j51 (m_X6_workOut_j7 n f) n (nI p) (nI (zo s p)) 0 (zSt (zU s 21 5 r) 22 e) = m_X6_workOut_j7 n f (nI (p + 1)) (zSt (zU s 21 5 r) 22 e') := by
      intro hn
      have ep := p_plain hV' hb' hL
      rw [fr 2 (by decide), fr 3 (by decide), fr 4 (by decide), fr 5 (by decide), er, zSt_s] at ep
      refine ⟨upd e (zo s p) (zPv (s 2) (s 3) (s 4) tx tot (zAn (s 5) r) e (zo s p)), ⟨fun k hk => ?_, fun q hq => ?_⟩, ?_⟩
      · by_cases ek : k = zo s p
        · rw [ek, upd_s]
          exact zPv_bn hP.1 hL hV.2.2.2.2.2.2.1 hV.2.2.2.2.2.2.2.1 (zAn_bn hV.2.2.2.2.2.2.2.2 hL) (fun j hj _ => h1 j hj)
        · rw [upd_n ek]; exact h1 k hk
      · by_cases eq : q = p
        · subst eq
          refine ⟨fun _ => ?_, fun hc => absurd hc hn⟩
          rw [upd_s]
          refine (zPv_c hP.1 hL (fun j hj hu => ?_)).symm
          obtain ⟨t, ht, et⟩ := zPn_use hP hp hn j hj hu
          rw [upd_n (fun h => by have := hP.2.2.1 t q (by omega) (by omega) (et.trans h); omega)]
        · exact zVq_c hP (fun k e1 e2 hk h => zPv_c hP.1 hk h) (by omega) (fun t ht => upd_n (fun h => by have := hP.2.2.1 t p (by omega) (by omega) h; omega)) (h2 q (by omega))
      · unfold m_X6_workOut_j51
        rw [if_pos rfl, ep, zBd_e, p_put hL (by decide), zBd_e, zLt_e, nI_s, zSt_u]
    by_cases h8 : s 2 (zo s p) = 8
    · have ec : m_X4_isCircular n (nI (zo s p)) (zSt (zU s 21 5 r) 22 e) = some (if zR (s 2) (s 3) (s 4) (zo s p) (zo s p) = true then 1 else 0, zSt (zU s 21 5 r) 22 e) := by
        rw [p_isCircular, a16 hL, fr 7 (by decide), has_n (by omega), hV.2.2.1 _ hL _ (by omega)]
      by_cases hc : zR (s 2) (s 3) (s 4) (zo s p) (zo s p) = true
      · obtain ⟨c, hx⟩ := hP.2.2.2.2.1 p hp ⟨h8, hc⟩
        have hcl : zCl (s 2) (s 3) (s 4) (zo s p) := ⟨h8, hc⟩
        obtain ⟨e', ge, ga, gb⟩ := p_greatest (p := p) (c := c) hn hV' hb' (by rw [z9, fr 2 (by decide), fr 3 (by decide), fr 4 (by decide)]; exact hcl) (by rw [z9, fr 2 (by decide), fr 3 (by decide), fr 4 (by decide)]; exact hx)
        rw [z9, fr 2 (by decide), fr 3 (by decide), fr 4 (by decide), fr 5 (by decide), er, zSt_s] at ge
        rw [z9, zSt_s] at ga
        have zz : zSt (zSt (zU s 21 5 r) 22 e) 22 e' = zSt (zU s 21 5 r) 22 e' := by
          funext i
          by_cases h : i = 22
          · subst h; rw [zSt_s, zSt_s]
          · rw [zSt_n h, zSt_n h, zSt_n h]
        rw [zz] at ge
        obtain ⟨f1, f2⟩ := zWf_f hP.1 hL (by rw [h8]; decide)
        obtain ⟨a, ha, ea⟩ := h1 _ f1
        obtain ⟨b, _, hb2, eb⟩ := zHl_in (h := fun mid => zSup (zPv (s 2) (s 3) (s 4) tx tot (zAn (s 5) r)) (zo s) (p + 1) (c - 1) (upd e (zo s p) mid) (zN (s 4 (zo s p)))) 31 0 a (Nat.zero_le _) ha
        have agr : ∀ q, q < p → upd e' (zo s p) (zHl (fun mid => zSup (zPv (s 2) (s 3) (s 4) tx tot (zAn (s 5) r)) (zo s) (p + 1) (c - 1) (upd e (zo s p) mid) (zN (s 4 (zo s p)))) 31 0 (e (zN (s 3 (zo s p))))) (zo s q) = e (zo s q) := fun q hq => by
          rw [upd_n (fun h => by have := hP.2.2.1 q p (by omega) (by omega) h; omega), ga q hq]
        refine ⟨upd e' (zo s p) (zHl (fun mid => zSup (zPv (s 2) (s 3) (s 4) tx tot (zAn (s 5) r)) (zo s) (p + 1) (c - 1) (upd e (zo s p) mid) (zN (s 4 (zo s p)))) 31 0 (e (zN (s 3 (zo s p))))), ⟨fun k hk => ?_, fun q hq => ?_⟩, ?_⟩
        · by_cases ek : k = zo s p
          · rw [ek, upd_s, ea]
            exact ⟨b, by omega, eb⟩
          · rw [upd_n ek]; exact gb k hk
        · by_cases eq : q = p
          · subst eq
            -- first with e, where place p holds the result
            have base : zVq (s 2) (s 3) (s 4) (zo s) (zPv (s 2) (s 3) (s 4) tx tot (zAn (s 5) r)) (upd e (zo s q) (zHl (fun mid => zSup (zPv (s 2) (s 3) (s 4) tx tot (zAn (s 5) r)) (zo s) (q + 1) (c - 1) (upd e (zo s q) mid) (zN (s 4 (zo s q)))) 31 0 (e (zN (s 3 (zo s q)))))) q := by
              refine ⟨fun h => absurd hcl h, fun _ => ⟨c, hx, ?_⟩⟩
              rw [upd_s]
              obtain ⟨t, ht, et⟩ := (hP.2.2.2.1 q hp).1 (by rw [h8]; decide)
              rw [upd_n (k := zo s q) (j := zN (s 3 (zo s q))) (fun h => by have := hP.2.2.1 t q (by omega) (by omega) (et.trans h); omega)]
              congr 1
              funext mid
              congr 1
              funext i
              by_cases hi : i = zo s q
              · rw [hi, upd_s, upd_s]
              · rw [upd_n hi, upd_n hi, upd_n hi]
            refine zVq_c hP (fun k e1 e2 hk h => zPv_c hP.1 hk h) hp (fun t ht => ?_) base
            by_cases et : t = q
            · rw [et, upd_s, upd_s]
            · rw [agr t (by omega), upd_n (fun h => et (hP.2.2.1 t q (by omega) (by omega) h))]
          · exact zVq_c hP (fun k e1 e2 hk h => zPv_c hP.1 hk h) (by omega) (fun t ht => agr t (by omega)) (h2 q (by omega))
        · show m_X6_workOut_j7 n (f + 1) (nI p) (zSt (zU s 21 5 r) 22 e) = _
          rw [m_X6_workOut_j7, if_neg (n16 hp), p_lineAt_n hp hV'.2.1, zBd_e, z9, p_kind, zBd_e, a16 hL, fr 2 (by decide), if_pos h8, ec, zBd_e, if_pos hc, if_neg (by decide)]
          unfold m_X6_workOut_j51
          rw [if_neg (by decide), ge, zBd_e, p_put hL (by decide), zBd_e, zLt_e, nI_s, zSt_u]
      · obtain ⟨e', hI, ee⟩ := plain (fun q => hc q.2)
        refine ⟨e', hI, ?_⟩
        show m_X6_workOut_j7 n (f + 1) (nI p) (zSt (zU s 21 5 r) 22 e) = _
        rw [m_X6_workOut_j7, if_neg (n16 hp), p_lineAt_n hp hV'.2.1, zBd_e, z9, p_kind, zBd_e, a16 hL, fr 2 (by decide), if_pos h8, ec, zBd_e, if_neg hc, if_pos rfl, ee]
    · obtain ⟨e', hI, ee⟩ := plain (fun q => h8 q.1)
      refine ⟨e', hI, ?_⟩
      show m_X6_workOut_j7 n (f + 1) (nI p) (zSt (zU s 21 5 r) 22 e) = _
      rw [m_X6_workOut_j7, if_neg (n16 hp), p_lineAt_n hp hV'.2.1, zBd_e, z9, p_kind, zBd_e, a16 hL, fr 2 (by decide), if_neg h8, ee]) 16 n 0 (s 22) rfl (by omega) ⟨hb, fun q h => absurd h (Nat.not_lt_zero q)⟩
  obtain ⟨f1, rfl⟩ : ∃ g, f1 = g + 1 := ⟨f1 - 1, by omega⟩
  refine ⟨e, ?_, i1, i2⟩
  unfold m_X6_workOut
  rw [zLt_e]
  have s0 : zU s 21 5 r = zSt (zU s 21 5 r) 22 (s 22) := by
    funext i
    by_cases h : i = 22
    · subst h; rw [zSt_s, zU_ne (by decide)]
    · rw [zSt_n h]
  rw [show m_X6_workOut_j7 n n 0 (zU s 21 5 r) = m_X6_workOut_j7 n n (nI 0) (zSt (zU s 21 5 r) 22 (s 22)) from (by rw [← s0]; rfl)]
  refine (show _ = _ from e1).trans ?_
  show m_X6_workOut_j7 n (f1 + 1) (nI 16) _ = _
  rw [m_X6_workOut_j7, if_pos n16e]; rfl
end PV
end
section
section PVb
/-! the class works out its values -/
theorem p_plainb {n k : Nat} {s : zS} {tx : Int32 → Int32} {tot : Int32} (hV : zVs n s tx tot) (hb : ∀ k, k < 16 → zBn (s 24 k)) (hk : k < 16) : m_X6b_plain n (nI k) s = some (zPv (s 2) (s 3) (s 4) tx tot (zAn (s 5) (s 23 5)) (s 24) k, s) := by
  obtain ⟨hP, h9, h7, h8, htx, htot, _, _, _⟩ := hV
  have hw := hP.1
  have hf : s 2 k ≠ 0 → zAt s 24 16 (s 3 k) = s 24 (zN (s 3 k)) ∧ zN (s 3 k) < 16 := fun h0 => by
    obtain ⟨f1, f2⟩ := zWf_f hw hk h0
    exact ⟨by rw [f2, a16 f1, ← f2], f1⟩
  have hg : zTwo (s 2 k) = true → zAt s 24 16 (s 4 k) = s 24 (zN (s 4 k)) ∧ zN (s 4 k) < 16 := fun h0 => by
    obtain ⟨f1, f2⟩ := zWf_g hw hk h0
    exact ⟨by rw [f2, a16 f1, ← f2], f1⟩
  unfold m_X6b_plain
  rw [p_first, zBd_e, a16 hk, p_ofb, zBd_e, p_second, zBd_e, a16 hk, p_kind, zBd_e, a16 hk]
  rcases zK_cases hw hk with c | c | c | c | c | c | c | c | c
  · rw [zPv_0 c, c, if_neg (by decide), if_neg (by decide), if_neg (by decide), if_neg (by decide), if_neg (by decide), if_neg (by decide), if_neg (by decide), if_neg (by decide)]
    unfold zAn
    by_cases hr : nI k = s 23 5
    · rw [if_pos hr, p_given, zBd_e, a16 hk, if_pos ⟨hk, hr⟩]; rfl
    · rw [if_neg hr, p_given, zBd_e, a16 hk, if_neg (fun q : k < 16 ∧ nI k = s 23 5 => hr q.2)]; rfl
  · rw [zPv_1 c, c, if_pos rfl, p_ofb, zBd_e, (hf (by rw [c]; decide)).1, (hg (by rw [c]; decide)).1]; rfl
  · rw [zPv_2 c, c, if_neg (by decide), if_pos rfl, p_ofb, zBd_e, (hf (by rw [c]; decide)).1, (hg (by rw [c]; decide)).1]; rfl
  · rw [zPv_3 c, c, if_neg (by decide), if_neg (by decide), if_pos rfl, (hf (by rw [c]; decide)).1]; rfl
  · rw [zPv_4 c, c, if_neg (by decide), if_neg (by decide), if_neg (by decide), if_pos rfl, p_ofb, zBd_e, (hf (by rw [c]; decide)).1, (hg (by rw [c]; decide)).1]; rfl
  · rw [zPv_5 c, c, if_neg (by decide), if_neg (by decide), if_neg (by decide), if_neg (by decide), if_pos rfl, p_ofb, zBd_e, (hf (by rw [c]; decide)).1, (hg (by rw [c]; decide)).1]; rfl
  · rw [zPv_6 c, c, if_neg (by decide), if_neg (by decide), if_neg (by decide), if_neg (by decide), if_neg (by decide), if_pos rfl, (hf (by rw [c]; decide)).1, htx s rfl rfl rfl _ (hb _ (hf (by rw [c]; decide)).2), zBd_e]; rfl
  · rw [zPv_7 c, c, if_neg (by decide), if_neg (by decide), if_neg (by decide), if_neg (by decide), if_neg (by decide), if_neg (by decide), if_pos rfl, htot s rfl rfl, zBd_e, (hf (by rw [c]; decide)).1]; rfl
  · rw [zPv_8 c, c, if_neg (by decide), if_neg (by decide), if_neg (by decide), if_neg (by decide), if_neg (by decide), if_neg (by decide), if_neg (by decide), if_pos rfl, p_ofb, zBd_e, (hf (by rw [c]; decide)).1, (hg (by rw [c]; decide)).1]; rfl
theorem p_supposeb {n p c : Nat} (hn : 100 ≤ n) {s : zS} {tx : Int32 → Int32} {tot v : Int32} (hV : zVs n s tx tot) (hb : ∀ k, k < 16 → zBn (s 24 k)) (hv : zBn v) (h8 : s 2 (zo s p) = 8) (hx : zEx (s 2) (s 3) (s 4) (zo s) p c) : m_X6b_suppose n (nI p) v s = some (0, zSt s 24 (zSup (zPv (s 2) (s 3) (s 4) tx tot (zAn (s 5) (s 23 5))) (zo s) (p + 1) (c - 1) (upd (s 24) (zo s p) v))) ∧ ∀ k, k < 16 → zBn (zSup (zPv (s 2) (s 3) (s 4) tx tot (zAn (s 5) (s 23 5))) (zo s) (p + 1) (c - 1) (upd (s 24) (zo s p) v) k) := by
  have hP := hV.1
  have hc0 := hx.1
  have hc1 := hx.2.1
  have hL := hP.2.1 p (by omega)
  have bnd : ∀ m, p + 1 + m ≤ 16 → ∀ k, k < 16 → zBn (zSup (zPv (s 2) (s 3) (s 4) tx tot (zAn (s 5) (s 23 5))) (zo s) (p + 1) m (upd (s 24) (zo s p) v) k) := fun m hm => zSup_bn (fun k e hk he => zPv_bn hP.1 hk hV.2.2.2.2.2.2.1 hV.2.2.2.2.2.2.2.1 (zAn_bn hV.2.2.2.2.2.2.2.2 hk) (fun j hj _ => he j hj)) hP.2.1 m (p + 1) _ hm (fun j hj => by
    by_cases e : j = zo s p
    · rw [e, upd_s]; exact hv
    · rw [upd_n e]; exact hb j hj)
  obtain ⟨s2, f1, hf1, hI, e1⟩ := for_up (fun f i s' => m_X6b_suppose_j38 n f (nI (p + c)) (nI (p + 1 + i)) s') (fun i s' => s' = zSt s 24 (zSup (zPv (s 2) (s 3) (s 4) tx tot (zAn (s 5) (s 23 5))) (zo s) (p + 1) i (upd (s 24) (zo s p) v))) (c - 1) (by
    rintro f i s' hi rfl
    refine ⟨_, rfl, ?_⟩
    show m_X6b_suppose_j38 n (f + 1) (nI (p + c)) (nI (p + 1 + i)) _ = m_X6b_suppose_j38 n f (nI (p + c)) (nI (p + 1 + (i + 1))) _
    have hV' : zVs n (zSt s 24 (zSup (zPv (s 2) (s 3) (s 4) tx tot (zAn (s 5) (s 23 5))) (zo s) (p + 1) i (upd (s 24) (zo s p) v))) tx tot := zVs_c hV (fun c hc => zSt_n (by omega))
    have ho := hP.2.1 (p + 1 + i) (by omega)
    have z9 : zo (zSt s 24 (zSup (zPv (s 2) (s 3) (s 4) tx tot (zAn (s 5) (s 23 5))) (zo s) (p + 1) i (upd (s 24) (zo s p) v))) (p + 1 + i) = zo s (p + 1 + i) := by unfold zo; rw [zSt_n (by decide)]
    rw [m_X6b_suppose_j38, if_neg (nI_ge (by omega) (by omega)), p_lineAt_n (by omega) hV'.2.1, zBd_e, z9, p_plainb hV' (by rw [zSt_s]; exact bnd i (by omega)) ho, zBd_e, p_put ho (by decide), zBd_e, zLt_e, nI_s, zSt_u, zSt_s, zSt_n (by decide), zSt_n (by decide), zSt_n (by decide), zSt_n (by decide), zSt_n (by decide), zSup_last]; rfl) (c - 1) n 0 (zSt s 24 (upd (s 24) (zo s p) v)) (by omega) (by omega) rfl
  subst hI
  obtain ⟨f1, rfl⟩ : ∃ g, f1 = g + 1 := ⟨f1 - 1, by omega⟩
  refine ⟨?_, bnd (c - 1) (by omega)⟩
  have e8 : zSt s 24 (upd (s 24) (zo s p) v) 8 = s 8 := zSt_n (by decide)
  unfold m_X6b_suppose
  rw [p_lineAt_n (by omega) hV.2.1, zBd_e, p_put hL (by decide), zBd_e, p_groupOf, zBd_e, a16 hL, show zU s 24 (zo s p) v = zSt s 24 (upd (s 24) (zo s p) v) from (by rw [← zSt_u, zSt_i]), e8, p_bits hV h8 hx, zBd_e, zLt_e, zLt_e, nI_add, nI_s]
  refine (show _ = _ from e1).trans ?_
  show m_X6b_suppose_j38 n (f1 + 1) (nI (p + c)) (nI (p + 1 + (c - 1))) _ = _
  rw [m_X6b_suppose_j38, if_pos (nI_le (by omega) (by omega))]; rfl
theorem p_greatestb {n p c : Nat} (hn : 100 ≤ n) {s : zS} {tx : Int32 → Int32} {tot : Int32} (hV : zVs n s tx tot) (hb : ∀ k, k < 16 → zBn (s 24 k)) (hcl : zCl (s 2) (s 3) (s 4) (zo s p)) (hx : zEx (s 2) (s 3) (s 4) (zo s) p c) : ∃ e', m_X6b_greatest n (nI p) s = some (zHl (fun mid => zSup (zPv (s 2) (s 3) (s 4) tx tot (zAn (s 5) (s 23 5))) (zo s) (p + 1) (c - 1) (upd (s 24) (zo s p) mid) (zN (s 4 (zo s p)))) 31 0 (s 24 (zN (s 3 (zo s p)))), zSt s 24 e') ∧ (∀ q, q < p → e' (zo s q) = s 24 (zo s q)) ∧ ∀ k, k < 16 → zBn (e' k) := by
  have hP := hV.1
  have hc0 := hx.1
  have hc1 := hx.2.1
  have hL := hP.2.1 p (by omega)
  obtain ⟨f1, f2⟩ := zWf_f hP.1 hL (by rw [hcl.1]; decide)
  obtain ⟨g1, g2⟩ := zWf_g hP.1 hL (by rw [hcl.1]; decide)
  obtain ⟨a, ha, ea⟩ := hb _ f1
  obtain ⟨r, r1, r2, r3⟩ := hx.2.2.2 _ g1 (zCl_g hP hL hcl)
  -- a supposition shows the same, whatever lies behind
  have same : ∀ e' mid, (∀ q, q < p → e' (zo s q) = s 24 (zo s q)) → zSup (zPv (s 2) (s 3) (s 4) tx tot (zAn (s 5) (s 23 5))) (zo s) (p + 1) (c - 1) (upd e' (zo s p) mid) (zN (s 4 (zo s p))) = zSup (zPv (s 2) (s 3) (s 4) tx tot (zAn (s 5) (s 23 5))) (zo s) (p + 1) (c - 1) (upd (s 24) (zo s p) mid) (zN (s 4 (zo s p))) := by
    intro e' mid he
    rw [← r3]
    refine zSup_d (D := fun _ => True) (U := zUb (s 2) (s 3) (s 4) false) (fun k e1 e2 hk h => zPv_c hP.1 hk h) hP.2.1 hP.2.2.1 (fun _ _ _ _ _ _ => trivial) (c - 1) (p + 1) _ _ (by omega) (zEx_use hP hcl.1 hx) (fun t ht _ => ?_) r (by omega) trivial
    by_cases et : t = p
    · rw [et, upd_s, upd_s]
    · rw [upd_n (fun q => et (hP.2.2.1 t p (by omega) (by omega) q)), upd_n (fun q => et (hP.2.2.1 t p (by omega) (by omega) q)), he t (by omega)]
  have loop : ∀ d f lo hi t e', t + d = 31 → d < f → lo ≤ 1000000000 → hi ≤ 1000000000 → (∀ q, q < p → e' (zo s q) = s 24 (zo s q)) → (∀ k, k < 16 → zBn (e' k)) → ∃ e'', m_X6b_greatest_j28 n f (nI p) (nI (zo s p)) (nI lo) (nI hi) (nI t) (zSt s 24 e') = some (zHl (fun mid => zSup (zPv (s 2) (s 3) (s 4) tx tot (zAn (s 5) (s 23 5))) (zo s) (p + 1) (c - 1) (upd (s 24) (zo s p) mid) (zN (s 4 (zo s p)))) d (nI lo) (nI hi), zSt s 24 e'') ∧ (∀ q, q < p → e'' (zo s q) = s 24 (zo s q)) ∧ ∀ k, k < 16 → zBn (e'' k) := by
    intro d
    induction d with
    | zero =>
      intro f lo hi t e' ht hf _ _ h1 h2
      obtain ⟨f, rfl⟩ : ∃ g, f = g + 1 := ⟨f - 1, by omega⟩
      refine ⟨e', ?_, h1, h2⟩
      rw [m_X6b_greatest_j28, if_pos (show (31 : Int32) ≤ nI t from nI_le (a := 31) (by omega) (by omega))]; rfl
    | succ d ih =>
      intro f lo hi t e' ht hf hlo hhi h1 h2
      obtain ⟨f, rfl⟩ : ∃ g, f = g + 1 := ⟨f - 1, by omega⟩
      rcases (Nat.lt_or_ge lo hi).symm with hge | hlt
      · refine ⟨e', ?_, h1, h2⟩
        rw [zHl_d hge hlo, m_X6b_greatest_j28, if_neg (show ¬ (31 : Int32) ≤ nI t from nI_ge (b := 31) (by omega) (by omega)), if_pos (nI_le hge (by omega))]; rfl
      · have hV' : zVs n (zSt s 24 e') tx tot := zVs_c hV (fun c hc => zSt_n (by omega))
        have z9 : zo (zSt s 24 e') = zo s := by funext q; unfold zo; rw [zSt_n (by decide)]
        have q2 : zSt s 24 e' 2 = s 2 := zSt_n (by decide)
        have q3 : zSt s 24 e' 3 = s 3 := zSt_n (by decide)
        have q4 : zSt s 24 e' 4 = s 4 := zSt_n (by decide)
        have q5 : zSt s 24 e' 5 = s 5 := zSt_n (by decide)
        have qr : zSt s 24 e' 23 = s 23 := zSt_n (by decide)
        obtain ⟨es, eb⟩ := p_supposeb (v := nI (lo + (hi - lo + 1) / 2)) hn hV' (by rw [zSt_s]; exact h2) ⟨_, by omega, rfl⟩ (p := p) (c := c) (by rw [z9, q2]; exact hcl.1) (by rw [z9, q2, q3, q4]; exact hx)
        rw [z9, q2, q3, q4, q5, qr, zSt_s] at es eb
        have ag : ∀ q, q < p → zSup (zPv (s 2) (s 3) (s 4) tx tot (zAn (s 5) (s 23 5))) (zo s) (p + 1) (c - 1) (upd e' (zo s p) (nI (lo + (hi - lo + 1) / 2))) (zo s q) = s 24 (zo s q) := by
          intro q hq
          rw [zSup_out _ _ _ (fun r' a b e => by have := hP.2.2.1 r' q (by omega) (by omega) e; omega), upd_n (fun e => by have := hP.2.2.1 q p (by omega) (by omega) e; omega)]
          exact h1 q hq
        have zz : zSt (zSt s 24 e') 24 (zSup (zPv (s 2) (s 3) (s 4) tx tot (zAn (s 5) (s 23 5))) (zo s) (p + 1) (c - 1) (upd e' (zo s p) (nI (lo + (hi - lo + 1) / 2)))) = zSt s 24 (zSup (zPv (s 2) (s 3) (s 4) tx tot (zAn (s 5) (s 23 5))) (zo s) (p + 1) (c - 1) (upd e' (zo s p) (nI (lo + (hi - lo + 1) / 2)))) := by
          funext i
          by_cases h : i = 24
          · subst h; rw [zSt_s, zSt_s]
          · rw [zSt_n h, zSt_n h, zSt_n h]
        rw [zz] at es
        rw [zHl_s hlt hhi, m_X6b_greatest_j28, if_neg (show ¬ (31 : Int32) ≤ nI t from nI_ge (b := 31) (by omega) (by omega)), if_neg (nI_ge hlt (by omega)), zLt_e, mid_c hlt hhi, es, zBd_e, p_second, zBd_e, a16 hL, zSt_n (by decide), p_ofb, zBd_e]
        rw [show zAt (zSt s 24 (zSup (zPv (s 2) (s 3) (s 4) tx tot (zAn (s 5) (s 23 5))) (zo s) (p + 1) (c - 1) (upd e' (zo s p) (nI (lo + (hi - lo + 1) / 2))))) 24 16 (s 4 (zo s p)) = zSup (zPv (s 2) (s 3) (s 4) tx tot (zAn (s 5) (s 23 5))) (zo s) (p + 1) (c - 1) (upd (s 24) (zo s p) (nI (lo + (hi - lo + 1) / 2))) (zN (s 4 (zo s p))) from (by rw [g2, a16 g1, zSt_s, ← g2]; exact same e' _ h1)]
        by_cases hcmp : zSup (zPv (s 2) (s 3) (s 4) tx tot (zAn (s 5) (s 23 5))) (zo s) (p + 1) (c - 1) (upd (s 24) (zo s p) (nI (lo + (hi - lo + 1) / 2))) (zN (s 4 (zo s p))) < nI (lo + (hi - lo + 1) / 2)
        · rw [if_pos hcmp, if_pos hcmp, zLt_e, zLt_e, nI_s, n_s1 (by omega)]
          exact ih f lo _ (t + 1) _ (by omega) (by omega) hlo (by omega) ag eb
        · rw [if_neg hcmp, if_neg hcmp, zLt_e, nI_s]
          exact ih f _ hi (t + 1) _ (by omega) (by omega) (by omega) hhi ag eb
  obtain ⟨e'', x1, x2, x3⟩ := loop 31 n 0 a 0 (s 24) rfl (by omega) (by omega) ha (fun _ _ => rfl) hb
  refine ⟨e'', ?_, x2, x3⟩
  rw [zSt_i] at x1
  unfold m_X6b_greatest
  rw [p_lineAt_n (by omega) hV.2.1, zBd_e, p_first, zBd_e, a16 hL, p_ofb, zBd_e, f2, a16 f1, ← f2, ea]
  exact x1
theorem p_workOutb {n : Nat} (hn : 100 ≤ n) {s : zS} {tx : Int32 → Int32} {tot : Int32} (r : Int32) (hV : zVs n s tx tot) (hb : ∀ k, k < 16 → zBn (s 24 k)) : ∃ e, m_X6b_workOut n r s = some (0, zSt (zU s 23 5 r) 24 e) ∧ (∀ k, k < 16 → zBn (e k)) ∧ ∀ p, p < 16 → zVq (s 2) (s 3) (s 4) (zo s) (zPv (s 2) (s 3) (s 4) tx tot (zAn (s 5) r)) e p := by
  have hP := hV.1
  obtain ⟨e, f1, hf1, ⟨i1, i2⟩, e1⟩ := for_up (fun f p (e : Nat → Int32) => m_X6b_workOut_j7 n f (nI p) (zSt (zU s 23 5 r) 24 e)) (fun p e => (∀ k, k < 16 → zBn (e k)) ∧ ∀ q, q < p → zVq (s 2) (s 3) (s 4) (zo s) (zPv (s 2) (s 3) (s 4) tx tot (zAn (s 5) r)) e q) 16 (by
    rintro f p e hp ⟨h1, h2⟩
    have hL := hP.2.1 p hp
    have fr : ∀ c, c < 15 → zSt (zU s 23 5 r) 24 e c = s c := fun c hc => by rw [zSt_n (by omega), zU_ne (by omega)]
    have hV' : zVs n (zSt (zU s 23 5 r) 24 e) tx tot := zVs_c hV fr
    have z9 : zo (zSt (zU s 23 5 r) 24 e) = zo s := by funext q; unfold zo; rw [fr 9 (by decide)]
    have er : zSt (zU s 23 5 r) 24 e 23 5 = r := by rw [zSt_n (by decide), zU_eq]
    have hb' : ∀ k, k < 16 → zBn (zSt (zU s 23 5 r) 24 e 24 k) := by rw [zSt_s]; exact h1
    -- a plain line
    have plain : ¬ zCl (s 2) (s 3) (s 4) (zo s p) → ∃ e', ((∀ k, k < 16 → zBn (e' k)) ∧ ∀ q, q < p + 1 → zVq (s 2) (s 3) (s 4) (zo s) (zPv (s 2) (s 3) (s 4) tx tot (zAn (s 5) r)) e' q) ∧ m_X6b_workOut_j51 (m_X6b_workOut_j7 n f) n (nI p) (nI (zo s p)) 0 (zSt (zU s 23 5 r) 24 e) = m_X6b_workOut_j7 n f (nI (p + 1)) (zSt (zU s 23 5 r) 24 e') := by
      intro hn
      have ep := p_plainb hV' hb' hL
      rw [fr 2 (by decide), fr 3 (by decide), fr 4 (by decide), fr 5 (by decide), er, zSt_s] at ep
      refine ⟨upd e (zo s p) (zPv (s 2) (s 3) (s 4) tx tot (zAn (s 5) r) e (zo s p)), ⟨fun k hk => ?_, fun q hq => ?_⟩, ?_⟩
      · by_cases ek : k = zo s p
        · rw [ek, upd_s]
          exact zPv_bn hP.1 hL hV.2.2.2.2.2.2.1 hV.2.2.2.2.2.2.2.1 (zAn_bn hV.2.2.2.2.2.2.2.2 hL) (fun j hj _ => h1 j hj)
        · rw [upd_n ek]; exact h1 k hk
      · by_cases eq : q = p
        · subst eq
          refine ⟨fun _ => ?_, fun hc => absurd hc hn⟩
          rw [upd_s]
          refine (zPv_c hP.1 hL (fun j hj hu => ?_)).symm
          obtain ⟨t, ht, et⟩ := zPn_use hP hp hn j hj hu
          rw [upd_n (fun h => by have := hP.2.2.1 t q (by omega) (by omega) (et.trans h); omega)]
        · exact zVq_c hP (fun k e1 e2 hk h => zPv_c hP.1 hk h) (by omega) (fun t ht => upd_n (fun h => by have := hP.2.2.1 t p (by omega) (by omega) h; omega)) (h2 q (by omega))
      · unfold m_X6b_workOut_j51
        rw [if_pos rfl, ep, zBd_e, p_put hL (by decide), zBd_e, zLt_e, nI_s, zSt_u]
    by_cases h8 : s 2 (zo s p) = 8
    · have ec : m_X4_isCircular n (nI (zo s p)) (zSt (zU s 23 5 r) 24 e) = some (if zR (s 2) (s 3) (s 4) (zo s p) (zo s p) = true then 1 else 0, zSt (zU s 23 5 r) 24 e) := by
        rw [p_isCircular, a16 hL, fr 7 (by decide), has_n (by omega), hV.2.2.1 _ hL _ (by omega)]
      by_cases hc : zR (s 2) (s 3) (s 4) (zo s p) (zo s p) = true
      · obtain ⟨c, hx⟩ := hP.2.2.2.2.1 p hp ⟨h8, hc⟩
        have hcl : zCl (s 2) (s 3) (s 4) (zo s p) := ⟨h8, hc⟩
        obtain ⟨e', ge, ga, gb⟩ := p_greatestb (p := p) (c := c) hn hV' hb' (by rw [z9, fr 2 (by decide), fr 3 (by decide), fr 4 (by decide)]; exact hcl) (by rw [z9, fr 2 (by decide), fr 3 (by decide), fr 4 (by decide)]; exact hx)
        rw [z9, fr 2 (by decide), fr 3 (by decide), fr 4 (by decide), fr 5 (by decide), er, zSt_s] at ge
        rw [z9, zSt_s] at ga
        have zz : zSt (zSt (zU s 23 5 r) 24 e) 24 e' = zSt (zU s 23 5 r) 24 e' := by
          funext i
          by_cases h : i = 24
          · subst h; rw [zSt_s, zSt_s]
          · rw [zSt_n h, zSt_n h, zSt_n h]
        rw [zz] at ge
        obtain ⟨f1, f2⟩ := zWf_f hP.1 hL (by rw [h8]; decide)
        obtain ⟨a, ha, ea⟩ := h1 _ f1
        obtain ⟨b, _, hb2, eb⟩ := zHl_in (h := fun mid => zSup (zPv (s 2) (s 3) (s 4) tx tot (zAn (s 5) r)) (zo s) (p + 1) (c - 1) (upd e (zo s p) mid) (zN (s 4 (zo s p)))) 31 0 a (Nat.zero_le _) ha
        have agr : ∀ q, q < p → upd e' (zo s p) (zHl (fun mid => zSup (zPv (s 2) (s 3) (s 4) tx tot (zAn (s 5) r)) (zo s) (p + 1) (c - 1) (upd e (zo s p) mid) (zN (s 4 (zo s p)))) 31 0 (e (zN (s 3 (zo s p))))) (zo s q) = e (zo s q) := fun q hq => by
          rw [upd_n (fun h => by have := hP.2.2.1 q p (by omega) (by omega) h; omega), ga q hq]
        refine ⟨upd e' (zo s p) (zHl (fun mid => zSup (zPv (s 2) (s 3) (s 4) tx tot (zAn (s 5) r)) (zo s) (p + 1) (c - 1) (upd e (zo s p) mid) (zN (s 4 (zo s p)))) 31 0 (e (zN (s 3 (zo s p))))), ⟨fun k hk => ?_, fun q hq => ?_⟩, ?_⟩
        · by_cases ek : k = zo s p
          · rw [ek, upd_s, ea]
            exact ⟨b, by omega, eb⟩
          · rw [upd_n ek]; exact gb k hk
        · by_cases eq : q = p
          · subst eq
            -- first with e, where place p holds the result
            have base : zVq (s 2) (s 3) (s 4) (zo s) (zPv (s 2) (s 3) (s 4) tx tot (zAn (s 5) r)) (upd e (zo s q) (zHl (fun mid => zSup (zPv (s 2) (s 3) (s 4) tx tot (zAn (s 5) r)) (zo s) (q + 1) (c - 1) (upd e (zo s q) mid) (zN (s 4 (zo s q)))) 31 0 (e (zN (s 3 (zo s q)))))) q := by
              refine ⟨fun h => absurd hcl h, fun _ => ⟨c, hx, ?_⟩⟩
              rw [upd_s]
              obtain ⟨t, ht, et⟩ := (hP.2.2.2.1 q hp).1 (by rw [h8]; decide)
              rw [upd_n (k := zo s q) (j := zN (s 3 (zo s q))) (fun h => by have := hP.2.2.1 t q (by omega) (by omega) (et.trans h); omega)]
              congr 1
              funext mid
              congr 1
              funext i
              by_cases hi : i = zo s q
              · rw [hi, upd_s, upd_s]
              · rw [upd_n hi, upd_n hi, upd_n hi]
            refine zVq_c hP (fun k e1 e2 hk h => zPv_c hP.1 hk h) hp (fun t ht => ?_) base
            by_cases et : t = q
            · rw [et, upd_s, upd_s]
            · rw [agr t (by omega), upd_n (fun h => et (hP.2.2.1 t q (by omega) (by omega) h))]
          · exact zVq_c hP (fun k e1 e2 hk h => zPv_c hP.1 hk h) (by omega) (fun t ht => agr t (by omega)) (h2 q (by omega))
        · show m_X6b_workOut_j7 n (f + 1) (nI p) (zSt (zU s 23 5 r) 24 e) = _
          rw [m_X6b_workOut_j7, if_neg (n16 hp), p_lineAt_n hp hV'.2.1, zBd_e, z9, p_kind, zBd_e, a16 hL, fr 2 (by decide), if_pos h8, ec, zBd_e, if_pos hc, if_neg (by decide)]
          unfold m_X6b_workOut_j51
          rw [if_neg (by decide), ge, zBd_e, p_put hL (by decide), zBd_e, zLt_e, nI_s, zSt_u]
      · obtain ⟨e', hI, ee⟩ := plain (fun q => hc q.2)
        refine ⟨e', hI, ?_⟩
        show m_X6b_workOut_j7 n (f + 1) (nI p) (zSt (zU s 23 5 r) 24 e) = _
        rw [m_X6b_workOut_j7, if_neg (n16 hp), p_lineAt_n hp hV'.2.1, zBd_e, z9, p_kind, zBd_e, a16 hL, fr 2 (by decide), if_pos h8, ec, zBd_e, if_neg hc, if_pos rfl, ee]
    · obtain ⟨e', hI, ee⟩ := plain (fun q => h8 q.1)
      refine ⟨e', hI, ?_⟩
      show m_X6b_workOut_j7 n (f + 1) (nI p) (zSt (zU s 23 5 r) 24 e) = _
      rw [m_X6b_workOut_j7, if_neg (n16 hp), p_lineAt_n hp hV'.2.1, zBd_e, z9, p_kind, zBd_e, a16 hL, fr 2 (by decide), if_neg h8, ee]) 16 n 0 (s 24) rfl (by omega) ⟨hb, fun q h => absurd h (Nat.not_lt_zero q)⟩
  obtain ⟨f1, rfl⟩ : ∃ g, f1 = g + 1 := ⟨f1 - 1, by omega⟩
  refine ⟨e, ?_, i1, i2⟩
  unfold m_X6b_workOut
  rw [zLt_e]
  have s0 : zU s 23 5 r = zSt (zU s 23 5 r) 24 (s 24) := by
    funext i
    by_cases h : i = 24
    · subst h; rw [zSt_s, zU_ne (by decide)]
    · rw [zSt_n h]
  rw [show m_X6b_workOut_j7 n n 0 (zU s 23 5 r) = m_X6b_workOut_j7 n n (nI 0) (zSt (zU s 23 5 r) 24 (s 24)) from (by rw [← s0]; rfl)]
  refine (show _ = _ from e1).trans ?_
  show m_X6b_workOut_j7 n (f1 + 1) (nI 16) _ = _
  rw [m_X6b_workOut_j7, if_pos n16e]; rfl
end PVb
end
section
section PKn
/-! what the reference knows, and when -/
def zCan (K F G : Nat → Int32) (b : Nat) (w : Nat → Int32) (k : Nat) : Prop := (K k ≠ 0 → w (b + zN (F k)) ≠ 0) ∧ (zTwo (K k) = true → w (b + zN (G k)) ≠ 0)
def zCanB (K F G : Nat → Int32) (b : Nat) (w : Nat → Int32) (k : Nat) : Bool := (decide (K k = 0) || decide (w (b + zN (F k)) ≠ 0)) && (!zTwo (K k) || decide (w (b + zN (G k)) ≠ 0))
theorem zCan_iff {K F G : Nat → Int32} {b : Nat} {w : Nat → Int32} {k : Nat} : zCanB K F G b w k = true ↔ zCan K F G b w k := by
  unfold zCanB zCan
  cases h : zTwo (K k) <;> by_cases h0 : K k = 0 <;> simp [h0]
def zK1 (K F G : Nat → Int32) (b : Nat) (w : Nat → Int32) (k : Nat) : Nat → Int32 := if zCanB K F G b w k = true ∧ w (b + k) = 0 then upd w (b + k) 1 else w
def zKi (K F G : Nat → Int32) (b : Nat) (w : Nat → Int32) : Nat → Nat → Int32
  | 0 => w
  | i + 1 => zK1 K F G b (zKi K F G b w i) i
def zKt (K F G : Nat → Int32) (b : Nat) (w : Nat → Int32) : Nat → Nat → Int32
  | 0 => w
  | t + 1 => zKi K F G b (zKt K F G b w t) 16
def zGI (K F G : Nat → Int32) (b : Nat) (w : Nat → Int32) : Prop := ∀ L, L < 16 → zCl K F G L → ∀ k, k < 16 → zGp K F G L k → w (b + k) ≠ 0 → w (b + L) ≠ 0
variable {K F G : Nat → Int32} {o : Nat → Nat} {b : Nat}
theorem zK1_m {w : Nat → Int32} {k j : Nat} (h : w j ≠ 0) : zK1 K F G b w k j = w j := by
  unfold zK1
  split
  · rename_i q
    exact upd_n (fun e => h (e ▸ q.2))
  · rfl
theorem zK1_o {w : Nat → Int32} {k j : Nat} (h : j ≠ b + k) : zK1 K F G b w k j = w j := by
  unfold zK1
  split
  · exact upd_n h
  · rfl
theorem zK1_b {w : Nat → Int32} {k j : Nat} (h : w j = 0 ∨ w j = 1) : zK1 K F G b w k j = 0 ∨ zK1 K F G b w k j = 1 := by
  by_cases e : j = b + k
  · unfold zK1
    split
    · rw [e, upd_s]; exact Or.inr rfl
    · exact h
  · rw [zK1_o e]; exact h
theorem zKi_m {w : Nat → Int32} {j : Nat} (h : w j ≠ 0) : ∀ i, zKi K F G b w i j = w j := by
  intro i
  induction i with
  | zero => rfl
  | succ i ih => rw [zKi, zK1_m (by rw [ih]; exact h), ih]
theorem zKi_le {w : Nat → Int32} {j i : Nat} (h : zKi K F G b w i j ≠ 0) : ∀ d, zKi K F G b w (i + d) j ≠ 0 := by
  intro d
  induction d with
  | zero => exact h
  | succ d ih => rw [← Nat.add_assoc, zKi, zK1_m ih]; exact ih
theorem zKt_m {w : Nat → Int32} {j : Nat} (h : w j ≠ 0) : ∀ t, zKt K F G b w t j = w j := by
  intro t
  induction t with
  | zero => rfl
  | succ t ih => rw [zKt, zKi_m (by rw [ih]; exact h), ih]
theorem zKi_b {w : Nat → Int32} {j : Nat} (h : w j = 0 ∨ w j = 1) : ∀ i, zKi K F G b w i j = 0 ∨ zKi K F G b w i j = 1 := by
  intro i
  induction i with
  | zero => exact h
  | succ i ih => rw [zKi]; exact zK1_b ih
theorem zKt_b {w : Nat → Int32} {j : Nat} (h : w j = 0 ∨ w j = 1) : ∀ i, zKt K F G b w i j = 0 ∨ zKt K F G b w i j = 1 := by
  intro i
  induction i with
  | zero => exact h
  | succ i ih => rw [zKt]; exact zKi_b ih 16
theorem zKi_o {w : Nat → Int32} {j : Nat} (h : j < b ∨ b + 16 ≤ j) : ∀ i, i ≤ 16 → zKi K F G b w i j = w j := by
  intro i
  induction i with
  | zero => intro _; rfl
  | succ i ih => intro hi; rw [zKi, zK1_o (by omega), ih (by omega)]
theorem zKt_o {w : Nat → Int32} {j : Nat} (h : j < b ∨ b + 16 ≤ j) : ∀ t, zKt K F G b w t j = w j := by
  intro t
  induction t with
  | zero => rfl
  | succ t ih => rw [zKt, zKi_o h 16 (Nat.le_refl _), ih]
/-- no LIMIT of a circle becomes known by what it uses -/
theorem zK1_ncl (hP : zPn K F G o) {w : Nat → Int32} {k : Nat} (hk : k < 16) (hg : zGI K F G b w) (hc : zCan K F G b w k) (h0 : w (b + k) = 0) : ¬ zCl K F G k := by
  intro hcl
  have ht : zTwo (K k) = true := by rw [hcl.1]; decide
  exact hg k hk hcl _ (zWf_g hP.1 hk ht).1 (zCl_g hP hk hcl) (hc.2 ht) h0
theorem zK1_gi (hP : zPn K F G o) {w : Nat → Int32} {k : Nat} (hk : k < 16) (hg : zGI K F G b w) : zGI K F G b (zK1 K F G b w k) := by
  intro L hL hcl k' hk' hgp hn
  have mono : w (b + L) ≠ 0 → zK1 K F G b w k (b + L) ≠ 0 := fun h => by rw [zK1_m h]; exact h
  by_cases e : k' = k
  · subst e
    by_cases h0 : w (b + k') = 0
    · have hc : zCan K F G b w k' := by
        refine Classical.byContradiction (fun q => hn ?_)
        unfold zK1
        rw [if_neg (fun h => q (zCan_iff.mp h.1))]; exact h0
      by_cases eL : k' = L
      · rw [← eL]; exact hn
      · rcases hgp with h | ⟨g1, g2⟩
        · exact absurd h eL
        · refine mono ?_
          have use : ∀ m, m < 16 → zUb K F G false k' m → w (b + m) ≠ 0 := by
            intro m _ hu
            rcases hu with ⟨a, e⟩ | ⟨a, _, e⟩
            · rw [e]; exact hc.1 a
            · rw [e]; exact hc.2 a
          rcases zTC_first g2 with hb | ⟨m, hm, hb, hr⟩
          · exact use L hL ((use_bt hP.1 hk false (by omega)).mp hb)
          · have hu := (use_bt hP.1 hk false (by omega)).mp hb
            exact hg L hL hcl m hm (Or.inr ⟨zTC_tr hk g1 (zR_u hP.1 hk hu), hr⟩) (use m hm hu)
    · exact mono (hg L hL hcl k' hk' hgp h0)
  · rw [zK1_o (by omega)] at hn
    exact mono (hg L hL hcl k' hk' hgp hn)
theorem zKi_gi (hP : zPn K F G o) {w : Nat → Int32} (hg : zGI K F G b w) : ∀ i, i ≤ 16 → zGI K F G b (zKi K F G b w i) := by
  intro i
  induction i with
  | zero => intro _; exact hg
  | succ i ih => intro hi; rw [zKi]; exact zK1_gi hP (by omega) (ih (by omega))
theorem zKt_gi (hP : zPn K F G o) {w : Nat → Int32} (hg : zGI K F G b w) : ∀ t, zGI K F G b (zKt K F G b w t) := by
  intro t
  induction t with
  | zero => exact hg
  | succ t ih => rw [zKt]; exact zKi_gi hP ih 16 (Nat.le_refl _)
/-- all lines ahead of the first unknown LIMIT of a circle become known -/
theorem zKt_all (hP : zPn K F G o) {w : Nat → Int32} {p : Nat} (hp : p ≤ 16) (h : ∀ q, q < p → zCl K F G (o q) → w (b + o q) ≠ 0) : ∀ q, q < p → zKt K F G b w 16 (b + o q) ≠ 0 := by
  have key : ∀ t, t ≤ 16 → ∀ q, q < p → q < t → zKt K F G b w t (b + o q) ≠ 0 := by
    intro t
    induction t with
    | zero => intro _ q _ h; omega
    | succ t ih =>
      intro ht q hq hqt
      rw [zKt]
      by_cases e : q = t
      · subst e
        by_cases hc : zCl K F G (o q)
        · rw [zKi_m (by rw [zKt_m (h q hq hc)]; exact h q hq hc), zKt_m (h q hq hc)]; exact h q hq hc
        · have hk := hP.2.1 q (by omega)
          have use : ∀ j, j < 16 → zUb K F G false (o q) j → zKt K F G b w q (b + j) ≠ 0 := by
            intro j hj hu
            obtain ⟨r, hr, er⟩ := zPn_use hP (by omega) hc j hj hu
            rw [← er]; exact ih (by omega) r (by omega) hr
          have at1 : zKi K F G b (zKt K F G b w q) (o q + 1) (b + o q) ≠ 0 := by
            rw [zKi]
            by_cases h0 : zKi K F G b (zKt K F G b w q) (o q) (b + o q) = 0
            · have hcan : zCan K F G b (zKi K F G b (zKt K F G b w q) (o q)) (o q) := by
                refine ⟨fun h1 => ?_, fun h1 => ?_⟩
                · have := use _ (zWf_f hP.1 hk h1).1 (Or.inl ⟨h1, rfl⟩)
                  rw [zKi_m this]; exact this
                · have := use _ (zWf_g hP.1 hk h1).1 (Or.inr ⟨h1, rfl, rfl⟩)
                  rw [zKi_m this]; exact this
              unfold zK1
              rw [if_pos ⟨zCan_iff.mpr hcan, h0⟩, upd_s]
              decide
            · rw [zK1_m h0]; exact h0
          have := zKi_le at1 (16 - (o q + 1))
          rw [show o q + 1 + (16 - (o q + 1)) = 16 by omega] at this
          exact this
      · have := ih (by omega) q hq (by omega)
        rw [zKi_m this]; exact this
  intro q hq
  exact key 16 (Nat.le_refl _) q hq (by omega)
end PKn
end
section
section PRe
/-! the reference works out its values -/
def zVr (n : Nat) (m : zS) (o : Nat → Nat) (tx : Int32 → Int32) (tot : Int32) : Prop := zPn (m 1) (m 2) (m 3) o ∧ (∀ m', m' 0 4 = m 0 4 → m' 5 = m 5 → m' 6 = m 6 → ∀ x, zBn x → m_X8_taxed n x m' = some (tx x, m')) ∧ (∀ m', m' 0 8 = m 0 8 → m' 7 = m 7 → m_X8_all n m' = some (tot, m')) ∧ (∀ x, zBn x → zBn (tx x)) ∧ zBn tot ∧ ∀ k, k < 16 → zBn (m 4 k)
theorem le_lt_min {a b : Nat} (ha : a < 2147483648) (hb : b < 2147483648) : (if nI b ≤ nI a then nI b else nI a) = (if nI b < nI a then nI b else nI a) := by
  rw [n_min ha hb]
  by_cases h : b ≤ a
  · rw [if_pos ((le_n hb ha).mpr h), Nat.min_eq_right h]
  · rw [if_neg (fun q => h ((le_n hb ha).mp q)), Nat.min_eq_left (by omega)]
theorem q_works {n b k : Nat} (hb : b ≤ 16) {m : zS} {o : Nat → Nat} {tx : Int32 → Int32} {tot : Int32} (hV : zVr n m o tx tot) (bd : ∀ i, i < 32 → zBn (m 11 i)) (hk : k < 16) : m_X8_works n (nI k) (nI b) m = some (zPv (m 1) (m 2) (m 3) tx tot (m 4) (fun j => m 11 (b + j)) k, m) := by
  obtain ⟨hP, htx, htot, _, hbt, _⟩ := hV
  have hw := hP.1
  -- the two operands
  have e1 : m_X8_works n (nI k) (nI b) m = m_X8_works_j32 n (nI k) (nI b) (m 1 k) (if m 1 k = 0 then 0 else m 11 (b + zN (m 2 k))) m := by
    unfold m_X8_works
    rw [zRd_n hk (by decide), q_usesFirst hk, zBd_e]
    by_cases h0 : m 1 k = 0
    · rw [if_pos h0, if_pos rfl, if_pos h0]
    · obtain ⟨f1, f2⟩ := zWf_f hw hk h0
      rw [if_neg h0, if_neg (by decide), zRd_n hk (by decide), f2, nI_add, zRd_n (by omega) (by decide), if_neg h0, ← f2]
  have e2 : ∀ v, m_X8_works_j32 n (nI k) (nI b) (m 1 k) v m = m_X8_works_j59 n (nI k) (m 1 k) v (if zTwo (m 1 k) = true then m 11 (b + zN (m 3 k)) else 0) m := by
    intro v
    unfold m_X8_works_j32
    rw [q_usesSecond hk, zBd_e]
    by_cases h0 : zTwo (m 1 k) = true
    · obtain ⟨f1, f2⟩ := zWf_g hw hk h0
      rw [if_pos h0, if_neg (by decide), zRd_n hk (by decide), f2, nI_add, zRd_n (by omega) (by decide), if_pos h0, ← f2]
    · rw [if_neg h0, if_pos rfl, if_neg h0]
  rw [e1, e2]
  have bF : m 1 k ≠ 0 → zBn (m 11 (b + zN (m 2 k))) := fun h => bd _ (by have := (zWf_f hw hk h).1; omega)
  have bG : zTwo (m 1 k) = true → zBn (m 11 (b + zN (m 3 k))) := fun h => bd _ (by have := (zWf_g hw hk h).1; omega)
  have hX : m 1 k ≠ 0 → (if m 1 k = 0 then (0 : Int32) else m 11 (b + zN (m 2 k))) = m 11 (b + zN (m 2 k)) := fun h => if_neg h
  have hY : zTwo (m 1 k) = true → (if zTwo (m 1 k) = true then m 11 (b + zN (m 3 k)) else (0 : Int32)) = m 11 (b + zN (m 3 k)) := fun h => if_pos h
  generalize (if m 1 k = 0 then (0 : Int32) else m 11 (b + zN (m 2 k))) = X at hX ⊢
  generalize (if zTwo (m 1 k) = true then m 11 (b + zN (m 3 k)) else (0 : Int32)) = Y at hY ⊢
  unfold m_X8_works_j59
  rcases zK_cases hw hk with c | c | c | c | c | c | c | c | c
  · rw [zPv_0 c, if_pos c, zRd_n hk (by decide)]; rfl
  · obtain ⟨x, hx, ex⟩ := bF (by rw [c]; decide)
    obtain ⟨y, hy, ey⟩ := bG (by rw [c]; decide)
    rw [zPv_1 c, hX (by rw [c]; decide), hY (by rw [c]; decide), c, if_neg (by decide), if_pos rfl, ex, ey, nI_add, show (1000000000 : Int32) - nI y = nI (1000000000 - y) from n_sub (a := 1000000000) hy]
    by_cases hc : x + y ≤ 1000000000
    · rw [if_pos ((le_n (by omega) (by omega)).mpr (by omega)), if_neg (fun q => by have := (lt_n (a := 1000000000) (by omega) (by omega)).mp q; omega)]; rfl
    · rw [if_neg (fun q => hc (by have := (le_n (by omega) (by omega)).mp q; omega)), if_pos (show (1000000000 : Int32) < nI (x + y) from (lt_n (a := 1000000000) (by omega) (by omega)).mpr (by omega))]; rfl
  · obtain ⟨x, hx, ex⟩ := bF (by rw [c]; decide)
    obtain ⟨y, hy, ey⟩ := bG (by rw [c]; decide)
    rw [zPv_2 c, hX (by rw [c]; decide), hY (by rw [c]; decide), c, if_neg (by decide), if_neg (by decide), if_pos rfl, ex, ey]
    by_cases hc : x ≤ y
    · rw [if_pos ((le_n (by omega) (by omega)).mpr hc)]
      by_cases h2 : x < y
      · rw [if_pos ((n_neg hx hy).mpr h2)]; rfl
      · rw [if_neg (fun q => h2 ((n_neg hx hy).mp q)), show x = y by omega, Int32.sub_self]; rfl
    · rw [if_neg (fun q => hc ((le_n (by omega) (by omega)).mp q)), if_neg (fun q => hc (by have := (n_neg hx hy).mp q; omega))]; rfl
  · rw [zPv_3 c, hX (by rw [c]; decide), c, if_neg (by decide), if_neg (by decide), if_neg (by decide), if_pos rfl, zRd_n hk (by decide)]; rfl
  · obtain ⟨x, hx, ex⟩ := bF (by rw [c]; decide)
    obtain ⟨y, hy, ey⟩ := bG (by rw [c]; decide)
    rw [zPv_4 c, hX (by rw [c]; decide), hY (by rw [c]; decide), c, if_neg (by decide), if_neg (by decide), if_neg (by decide), if_neg (by decide), if_neg (by decide), if_neg (by decide), if_neg (by decide)]
    unfold m_X8_works_j190
    rw [ex, ey, ← le_lt_min (by omega) (by omega)]
    split <;> rfl
  · obtain ⟨x, hx, ex⟩ := bF (by rw [c]; decide)
    obtain ⟨y, hy, ey⟩ := bG (by rw [c]; decide)
    rw [zPv_5 c, hX (by rw [c]; decide), hY (by rw [c]; decide), c, if_neg (by decide), if_neg (by decide), if_neg (by decide), if_neg (by decide), if_pos rfl, ex, ey, n_max (by omega) (by omega)]
    by_cases hc : x ≤ y
    · rw [if_pos ((le_n (by omega) (by omega)).mpr hc), Nat.max_eq_right hc]; rfl
    · rw [if_neg (fun q => hc ((le_n (by omega) (by omega)).mp q)), Nat.max_eq_left (by omega)]; rfl
  · rw [zPv_6 c, hX (by rw [c]; decide), c, if_neg (by decide), if_neg (by decide), if_neg (by decide), if_neg (by decide), if_neg (by decide), if_pos rfl, htx m rfl rfl rfl _ (bF (by rw [c]; decide)), zBd_e]; rfl
  · obtain ⟨x, hx, ex⟩ := bF (by rw [c]; decide)
    obtain ⟨y, hy, ey⟩ := hbt
    rw [zPv_7 c, hX (by rw [c]; decide), c, if_neg (by decide), if_neg (by decide), if_neg (by decide), if_neg (by decide), if_neg (by decide), if_neg (by decide), if_pos rfl, htot m rfl rfl, zBd_e]
    unfold m_X8_works_j190
    rw [ex, ey, ← le_lt_min (by omega) (by omega)]
    split <;> rfl
  · obtain ⟨x, hx, ex⟩ := bF (by rw [c]; decide)
    obtain ⟨y, hy, ey⟩ := bG (by rw [c]; decide)
    rw [zPv_8 c, hX (by rw [c]; decide), hY (by rw [c]; decide), c, if_neg (by decide), if_neg (by decide), if_neg (by decide), if_neg (by decide), if_neg (by decide), if_neg (by decide), if_neg (by decide)]
    unfold m_X8_works_j190
    rw [ex, ey, ← le_lt_min (by omega) (by omega)]
    split <;> rfl
/-- values and what is known replaced -/
def zS2 (m : zS) (e w : Nat → Int32) : zS := zSt (zSt m 11 e) 12 w
theorem zS2_n {m : zS} {e w : Nat → Int32} {c : Nat} (h1 : c ≠ 11) (h2 : c ≠ 12) : zS2 m e w c = m c := by unfold zS2; rw [zSt_n h2, zSt_n h1]
theorem zS2_v {m : zS} {e w : Nat → Int32} : zS2 m e w 11 = e := by unfold zS2; rw [zSt_n (by decide), zSt_s]
theorem zS2_w {m : zS} {e w : Nat → Int32} : zS2 m e w 12 = w := by unfold zS2; rw [zSt_s]
theorem zS2_i {m : zS} : zS2 m (m 11) (m 12) = m := by unfold zS2; rw [zSt_i, zSt_i]
theorem zS2_uv {m : zS} {e w : Nat → Int32} {j : Nat} {v : Int32} : zU (zS2 m e w) 11 j v = zS2 m (upd e j v) w := by
  funext i
  by_cases h : i = 11
  · subst h; unfold zU; rw [if_pos rfl, zS2_v, zS2_v]
  · rw [zU_ne h]
    by_cases h2 : i = 12
    · subst h2; rw [zS2_w, zS2_w]
    · rw [zS2_n h h2, zS2_n h h2]
theorem zS2_uw {m : zS} {e w : Nat → Int32} {j : Nat} {v : Int32} : zU (zS2 m e w) 12 j v = zS2 m e (upd w j v) := by
  funext i
  by_cases h : i = 12
  · subst h; unfold zU; rw [if_pos rfl, zS2_w, zS2_w]
  · rw [zU_ne h]
    by_cases h2 : i = 11
    · subst h2; rw [zS2_v, zS2_v]
    · rw [zS2_n h2 h, zS2_n h2 h]
theorem zS2_2 {m : zS} {e w e' w' : Nat → Int32} : zS2 (zS2 m e w) e' w' = zS2 m e' w' := by
  funext i
  by_cases h : i = 11
  · subst h; rw [zS2_v, zS2_v]
  · by_cases h2 : i = 12
    · subst h2; rw [zS2_w, zS2_w]
    · rw [zS2_n h h2, zS2_n h h2, zS2_n h h2]
theorem zVr_2 {n : Nat} {m : zS} {o : Nat → Nat} {tx : Int32 → Int32} {tot : Int32} (h : zVr n m o tx tot) (e w : Nat → Int32) : zVr n (zS2 m e w) o tx tot := by
  unfold zVr
  rw [zS2_n (show 0 ≠ 11 by decide) (by decide), zS2_n (show 1 ≠ 11 by decide) (by decide), zS2_n (show 2 ≠ 11 by decide) (by decide), zS2_n (show 3 ≠ 11 by decide) (by decide), zS2_n (show 4 ≠ 11 by decide) (by decide), zS2_n (show 5 ≠ 11 by decide) (by decide), zS2_n (show 6 ≠ 11 by decide) (by decide), zS2_n (show 7 ≠ 11 by decide) (by decide)]
  exact h
/-- lines that use only lines of their like -/
def zDc (K F G : Nat → Int32) (D : Nat → Prop) : Prop := ∀ k j, k < 16 → j < 16 → D k → zUb K F G false k j → D j
/-- what stands while lines are worked out -/
def zPI (m : zS) (b : Nat) (pv : (Nat → Int32) → Nat → Int32) (e0 w0 e w : Nat → Int32) : Prop := (∀ i, i < 32 → zBn (e i)) ∧ (∀ i, (i < b ∨ b + 16 ≤ i) → e i = e0 i) ∧ (∀ k, k < 16 → w0 (b + k) ≠ 0 → e (b + k) = e0 (b + k) ∧ w (b + k) ≠ 0) ∧ (∀ i, i < 32 → w i = 0 ∨ w i = 1) ∧ zGI (m 1) (m 2) (m 3) b w ∧ ∀ (D : Nat → Prop) (ve : Nat → Int32), zDc (m 1) (m 2) (m 3) D → (∀ k, k < 16 → D k → w0 (b + k) ≠ 0 → e0 (b + k) = ve k) → (∀ k, k < 16 → D k → ¬ zCl (m 1) (m 2) (m 3) k → w0 (b + k) = 0 → ve k = pv ve k) → ∀ k, k < 16 → D k → w (b + k) ≠ 0 → e (b + k) = ve k
theorem q_pass1 {n b k : Nat} (hb : b = 0 ∨ b = 16) {m : zS} {o : Nat → Nat} {tx : Int32 → Int32} {tot : Int32} (hV : zVr n m o tx tot) (rec2 : Int32 → Int32 → zS → Option (Int32 × zS)) (t : Int32) {f : Nat} {e0 w0 e w : Nat → Int32} (hk : k < 16) (hI : zPI m b (zPv (m 1) (m 2) (m 3) tx tot (m 4)) e0 w0 e w) : ∃ e', zPI m b (zPv (m 1) (m 2) (m 3) tx tot (m 4)) e0 w0 e' (zK1 (m 1) (m 2) (m 3) b w k) ∧ m_X8_passes_j10 rec2 n (f + 1) (nI b) t (nI k) (zS2 m e w) = m_X8_passes_j10 rec2 n f (nI b) t (nI (k + 1)) (zS2 m e' (zK1 (m 1) (m 2) (m 3) b w k)) := by
  have hP := hV.1
  have hw := hP.1
  have hV' := zVr_2 hV e w
  have c1 : zS2 m e w 1 = m 1 := zS2_n (by decide) (by decide)
  have c2 : zS2 m e w 2 = m 2 := zS2_n (by decide) (by decide)
  have c3 : zS2 m e w 3 = m 3 := zS2_n (by decide) (by decide)
  have c4 : zS2 m e w 4 = m 4 := zS2_n (by decide) (by decide)
  obtain ⟨i1, i2, i3, i4, i5, i6⟩ := hI
  -- the run up to the test
  have run : m_X8_passes_j10 rec2 n (f + 1) (nI b) t (nI k) (zS2 m e w) = m_X8_passes_j78 rec2 (m_X8_passes_j10 rec2 n f) n (nI b) t (nI k) (if m 1 k ≠ 0 ∧ w (b + zN (m 2 k)) = 0 then 0 else 1) (if zTwo (m 1 k) = true ∧ w (b + zN (m 3 k)) = 0 then 0 else 1) (zS2 m e w) := by
    have s2 : ∀ t0 : Int32, m_X8_passes_j45 rec2 (m_X8_passes_j10 rec2 n f) n (nI b) t (nI k) t0 (zS2 m e w) = m_X8_passes_j78 rec2 (m_X8_passes_j10 rec2 n f) n (nI b) t (nI k) t0 (if zTwo (m 1 k) = true ∧ w (b + zN (m 3 k)) = 0 then 0 else 1) (zS2 m e w) := by
      intro t0
      unfold m_X8_passes_j45
      rw [q_usesSecond hk, zBd_e, c1]
      by_cases ht : zTwo (m 1 k) = true
      · obtain ⟨g1, g2⟩ := zWf_g hw hk ht
        rw [if_pos ht, if_neg (by decide), zRd_n hk (by decide), c3, g2, nI_add, zRd_n (by omega) (by decide), zS2_w, ← g2]
        by_cases h0 : w (b + zN (m 3 k)) = 0
        · rw [if_pos h0, if_pos ⟨ht, h0⟩]
        · rw [if_neg h0, if_neg (fun q => h0 q.2)]
      · rw [if_neg ht, if_pos rfl, if_neg (fun q => ht q.1)]
    rw [m_X8_passes_j10, if_neg (n16 hk), q_usesFirst hk, zBd_e, c1]
    by_cases h0 : m 1 k = 0
    · rw [if_pos h0, if_pos rfl, s2, if_neg (fun q : m 1 k ≠ 0 ∧ w (b + zN (m 2 k)) = 0 => q.1 h0)]
    · obtain ⟨f1, f2⟩ := zWf_f hw hk h0
      rw [if_neg h0, if_neg (by decide), zRd_n hk (by decide), c2, f2, nI_add, zRd_n (by omega) (by decide), zS2_w, ← f2]
      by_cases h1 : w (b + zN (m 2 k)) = 0
      · rw [if_pos h1, s2, if_pos (show m 1 k ≠ 0 ∧ w (b + zN (m 2 k)) = 0 from ⟨h0, h1⟩)]
      · rw [if_neg h1, s2, if_neg (fun q : m 1 k ≠ 0 ∧ w (b + zN (m 2 k)) = 0 => h1 q.2)]
  have gi' := zK1_gi hP (b := b) hk i5
  by_cases hc : zCan (m 1) (m 2) (m 3) b w k
  · have n1 : ¬ (m 1 k ≠ 0 ∧ w (b + zN (m 2 k)) = 0) := fun q => hc.1 q.1 q.2
    have n2 : ¬ (zTwo (m 1 k) = true ∧ w (b + zN (m 3 k)) = 0) := fun q => hc.2 q.1 q.2
    rw [if_neg n1, if_neg n2] at run
    by_cases h0 : w (b + k) = 0
    · have ez : zK1 (m 1) (m 2) (m 3) b w k = upd w (b + k) 1 := by unfold zK1; rw [if_pos ⟨zCan_iff.mpr hc, h0⟩]
      have ew := q_works (b := b) (k := k) (by omega) hV' (by rw [zS2_v]; exact i1) hk
      rw [c1, c2, c3, c4, zS2_v] at ew
      have hbk : b + k < 32 := by omega
      have ncl := zK1_ncl hP hk i5 hc h0
      have hbn : zBn (zPv (m 1) (m 2) (m 3) tx tot (m 4) (fun j => e (b + j)) k) := zPv_bn hw hk hV.2.2.2.1 hV.2.2.2.2.1 (hV.2.2.2.2.2 k hk) (fun j hj _ => i1 _ (by omega))
      have nw0 : w0 (b + k) = 0 := by
        refine Classical.byContradiction (fun q => (i3 k hk q).2 h0)
      refine ⟨upd e (b + k) (zPv (m 1) (m 2) (m 3) tx tot (m 4) (fun j => e (b + j)) k), ⟨fun i hi => ?_, fun i hi => ?_, fun j hj h => ?_, fun i hi => ?_, gi', fun D ve hD hs he j hj hDj hn => ?_⟩, ?_⟩
      · by_cases q : i = b + k
        · rw [q, upd_s]; exact hbn
        · rw [upd_n q]; exact i1 i hi
      · rw [upd_n (by omega)]; exact i2 i hi
      · have ne : j ≠ k := fun q => h (q ▸ nw0)
        rw [upd_n (by omega)]
        exact ⟨(i3 j hj h).1, by rw [zK1_m (i3 j hj h).2]; exact (i3 j hj h).2⟩
      · exact zK1_b (i4 i hi)
      · by_cases q : j = k
        · subst q
          rw [upd_s, he j hj hDj ncl nw0]
          refine zPv_c hw hj (fun u hu hub => ?_)
          refine i6 D ve hD hs he u hu (hD j u hj hu hDj hub) ?_
          rcases hub with ⟨a, eu⟩ | ⟨a, _, eu⟩
          · rw [eu]; exact hc.1 a
          · rw [eu]; exact hc.2 a
        · rw [upd_n (by omega)]
          rw [zK1_o (by omega)] at hn
          exact i6 D ve hD hs he j hj hDj hn
      · rw [run, ez]
        unfold m_X8_passes_j78
        rw [zLt_e, if_neg (by decide), nI_add, zRd_n hbk (by decide), zS2_w, if_pos h0, ew, zBd_e, zWr_n hbk (by decide), zWr_n hbk (by decide), zLt_e, nI_s, zS2_uv, zS2_uw, zn_id _ (Or.inr rfl)]
    · have ez : zK1 (m 1) (m 2) (m 3) b w k = w := by unfold zK1; rw [if_neg (fun q => h0 q.2)]
      refine ⟨e, by rw [ez]; exact ⟨i1, i2, i3, i4, i5, i6⟩, ?_⟩
      rw [run, ez]
      unfold m_X8_passes_j78
      rw [zLt_e, if_neg (by decide), nI_add, zRd_n (by omega) (by decide), zS2_w, if_neg h0, zLt_e, nI_s]
  · have ez : zK1 (m 1) (m 2) (m 3) b w k = w := by unfold zK1; rw [if_neg (fun q => hc (zCan_iff.mp q.1))]
    refine ⟨e, by rw [ez]; exact ⟨i1, i2, i3, i4, i5, i6⟩, ?_⟩
    rw [run, ez]
    unfold m_X8_passes_j78
    by_cases n1 : m 1 k ≠ 0 ∧ w (b + zN (m 2 k)) = 0
    · rw [if_pos n1, zLt_e]
      have : ∀ x : Int32, (0 : Int32) &&& x = 0 := fun x => and_0.mpr (fun j _ q => by rw [b_0] at q; exact absurd q.1 (by decide))
      rw [this, if_pos rfl, zLt_e, nI_s]
    · by_cases n2 : zTwo (m 1 k) = true ∧ w (b + zN (m 3 k)) = 0
      · rw [if_neg n1, if_pos n2, zLt_e, if_pos (by decide), zLt_e, nI_s]
      · exact absurd ⟨fun a q => n1 ⟨a, q⟩, fun a q => n2 ⟨a, q⟩⟩ hc
theorem q_passes {n b : Nat} (hn : 100 ≤ n) (hb : b = 0 ∨ b = 16) {m : zS} {o : Nat → Nat} {tx : Int32 → Int32} {tot : Int32} (hV : zVr n m o tx tot) {e0 w0 : Nat → Int32} (bd : ∀ i, i < 32 → zBn (e0 i)) (bl : ∀ i, i < 32 → w0 i = 0 ∨ w0 i = 1) (gi : zGI (m 1) (m 2) (m 3) b w0) : ∃ e, m_X8_passes n (nI b) (zS2 m e0 w0) = some (0, zS2 m e (zKt (m 1) (m 2) (m 3) b w0 16)) ∧ zPI m b (zPv (m 1) (m 2) (m 3) tx tot (m 4)) e0 w0 e (zKt (m 1) (m 2) (m 3) b w0 16) := by
  obtain ⟨e, f1, hf1, hI, e1⟩ := for_up (fun f t (e : Nat → Int32) => m_X8_passes_j2 n f (nI b) (nI t) (zS2 m e (zKt (m 1) (m 2) (m 3) b w0 t))) (fun t e => zPI m b (zPv (m 1) (m 2) (m 3) tx tot (m 4)) e0 w0 e (zKt (m 1) (m 2) (m 3) b w0 t)) 16 (by
    intro f t e ht hI
    obtain ⟨e3, f3, hf3, hI3, ee3⟩ := for_up (fun f9 k (e : Nat → Int32) => m_X8_passes_j10 (m_X8_passes_j2 n f) n f9 (nI b) (nI t) (nI k) (zS2 m e (zKi (m 1) (m 2) (m 3) b (zKt (m 1) (m 2) (m 3) b w0 t) k))) (fun k e => zPI m b (zPv (m 1) (m 2) (m 3) tx tot (m 4)) e0 w0 e (zKi (m 1) (m 2) (m 3) b (zKt (m 1) (m 2) (m 3) b w0 t) k)) 16 (by
      intro f9 k e hk hI
      obtain ⟨e', h1, h2⟩ := q_pass1 hb hV (m_X8_passes_j2 n f) (nI t) (f := f9) hk hI
      exact ⟨e', h1, h2⟩) 16 n 0 e rfl (by omega) hI
    obtain ⟨f3, rfl⟩ : ∃ g, f3 = g + 1 := ⟨f3 - 1, by omega⟩
    refine ⟨e3, hI3, ?_⟩
    show m_X8_passes_j2 n (f + 1) (nI b) (nI t) _ = m_X8_passes_j2 n f (nI b) (nI (t + 1)) _
    rw [m_X8_passes_j2, if_neg (n16 ht)]
    refine (show _ = _ from ee3).trans ?_
    show m_X8_passes_j10 _ n (f3 + 1) (nI b) (nI t) (nI 16) _ = _
    rw [m_X8_passes_j10, if_pos n16e, zLt_e, nI_s, zKt]) 16 n 0 e0 rfl (by omega) ⟨bd, fun _ _ => rfl, fun k hk h => ⟨rfl, h⟩, bl, gi, fun D ve hD hs he k hk hDk hn => hs k hk hDk hn⟩
  obtain ⟨f1, rfl⟩ : ∃ g, f1 = g + 1 := ⟨f1 - 1, by omega⟩
  refine ⟨e, ?_, hI⟩
  unfold m_X8_passes
  refine (show _ = _ from e1).trans ?_
  show m_X8_passes_j2 n (f1 + 1) (nI b) (nI 16) _ = _
  rw [m_X8_passes_j2, if_pos n16e]; rfl
end PRe
end
section
section PTr
/-! the reference tries values -/
def zCp (e : Nat → Int32) (L : Nat) (v : Int32) : Nat → Int32 := fun i => if i = 16 + L then v else if 16 ≤ i ∧ i < 32 then e (i - 16) else e i
theorem zCp_l {e : Nat → Int32} {L : Nat} {v : Int32} : zCp e L v (16 + L) = v := if_pos rfl
theorem zCp_h {e : Nat → Int32} {L k : Nat} {v : Int32} (hk : k < 16) (h : k ≠ L) : zCp e L v (16 + k) = e k := by
  unfold zCp
  rw [if_neg (by omega), if_pos (by omega)]; congr 1; omega
theorem zCp_o {e : Nat → Int32} {L i : Nat} {v : Int32} (hL : L < 16) (h : i < 16 ∨ 32 ≤ i) : zCp e L v i = e i := by
  unfold zCp
  rw [if_neg (by omega), if_neg (by omega)]
theorem zCp_c {e e' : Nat → Int32} {L : Nat} {v : Int32} (h : ∀ i, (i < 16 ∨ 32 ≤ i) → e' i = e i) : zCp e' L v = zCp e L v := by
  funext i
  unfold zCp
  by_cases h1 : i = 16 + L
  · rw [if_pos h1, if_pos h1]
  · rw [if_neg h1, if_neg h1]
    by_cases h2 : 16 ≤ i ∧ i < 32
    · rw [if_pos h2, if_pos h2, h _ (Or.inl (by omega))]
    · rw [if_neg h2, if_neg h2, h _ (by omega)]
theorem zGp_lim {K F G : Nat → Int32} {o : Nat → Nat} (hP : zPn K F G o) {L' L : Nat} (hL' : L' < 16) (hL : L < 16) (hcl : zCl K F G L') (h8 : K L = 8) (hg : zGp K F G L' L) : L = L' := by
  rcases hg with h | ⟨a, b⟩
  · exact h
  · exact (hP.2.2.2.2.2 L' hL' hcl).1 L hL a b h8
theorem q_tries {n L : Nat} (hn : 100 ≤ n) {m : zS} {o : Nat → Nat} {tx : Int32 → Int32} {tot v : Int32} (hV : zVr n m o tx tot) {e w : Nat → Int32} (bd : ∀ i, i < 32 → zBn (e i)) (bl : ∀ i, i < 32 → w i = 0 ∨ w i = 1) (gi : zGI (m 1) (m 2) (m 3) 0 w) (hL : L < 16) (h8 : m 1 L = 8) (hv : zBn v) : ∃ e', m_X8_tries n (nI L) v (zS2 m e w) = some (zKt (m 1) (m 2) (m 3) 16 (zCp w L 1) 16 (16 + zN (m 3 L)), zS2 m e' (zKt (m 1) (m 2) (m 3) 16 (zCp w L 1) 16)) ∧ zPI m 16 (zPv (m 1) (m 2) (m 3) tx tot (m 4)) (zCp e L v) (zCp w L 1) e' (zKt (m 1) (m 2) (m 3) 16 (zCp w L 1) 16) := by
  have hP := hV.1
  obtain ⟨g1, g2⟩ := zWf_g hP.1 hL (by rw [h8]; decide)
  -- the copy
  obtain ⟨⟨e1, w1⟩, f1, hf1, ⟨a1, a2⟩, ee⟩ := for_up (fun f k (x : (Nat → Int32) × (Nat → Int32)) => m_X8_tries_j2 n f (nI L) v (nI k) (zS2 m x.1 x.2)) (fun k x => (∀ i, x.1 i = if 16 ≤ i ∧ i < 16 + k then e (i - 16) else e i) ∧ ∀ i, x.2 i = if 16 ≤ i ∧ i < 16 + k then w (i - 16) else w i) 16 (by
    rintro f k ⟨e1, w1⟩ hk ⟨h1, h2⟩
    simp only at h1 h2
    have r1 : e1 k = e k := by rw [h1, if_neg (by omega)]
    have r2 : w1 k = w k := by rw [h2, if_neg (by omega)]
    refine ⟨(upd e1 (16 + k) (e k), upd w1 (16 + k) (w k)), ⟨fun i => ?_, fun i => ?_⟩, ?_⟩
    · show upd e1 (16 + k) (e k) i = _
      by_cases q : i = 16 + k
      · rw [q, upd_s, if_pos (by omega)]; congr 1; omega
      · rw [upd_n q, h1]
        exact zif (by omega)
    · show upd w1 (16 + k) (w k) i = _
      by_cases q : i = 16 + k
      · rw [q, upd_s, if_pos (by omega)]; congr 1; omega
      · rw [upd_n q, h2]
        exact zif (by omega)
    · show m_X8_tries_j2 n (f + 1) (nI L) v (nI k) (zS2 m e1 w1) = m_X8_tries_j2 n f (nI L) v (nI (k + 1)) (zS2 m (upd e1 (16 + k) (e k)) (upd w1 (16 + k) (w k)))
      rw [m_X8_tries_j2, if_neg (n16 hk), zRd_n (by omega) (by decide), zS2_v, r1, show (16 : Int32) + nI k = nI (16 + k) from nI_add 16 k, zWr_n (by omega) (by decide), zS2_uv, zRd_n (by omega) (by decide), zS2_w, r2, zWr_n (by omega) (by decide), zS2_uw, zLt_e, nI_s, zn_id _ (bl k (by omega))]) 16 n 0 (e, w) rfl (by omega) ⟨fun i => by show e i = _; rw [if_neg (by omega)], fun i => by show w i = _; rw [if_neg (by omega)]⟩
  simp only at a1 a2
  have ce : upd e1 (16 + L) v = zCp e L v := by
    funext i
    unfold zCp
    by_cases q : i = 16 + L
    · rw [q, upd_s, if_pos rfl]
    · rw [upd_n q, a1, if_neg q]
  have cw : upd w1 (16 + L) 1 = zCp w L 1 := by
    funext i
    unfold zCp
    by_cases q : i = 16 + L
    · rw [q, upd_s, if_pos rfl]
    · rw [upd_n q, a2, if_neg q]
  have bd' : ∀ i, i < 32 → zBn (zCp e L v i) := by
    intro i hi
    unfold zCp
    split
    · exact hv
    · split
      · exact bd _ (by omega)
      · exact bd _ hi
  have bl' : ∀ i, i < 32 → zCp w L 1 i = 0 ∨ zCp w L 1 i = 1 := by
    intro i hi
    unfold zCp
    split
    · exact Or.inr rfl
    · split
      · exact bl _ (by omega)
      · exact bl _ hi
  have gi' : zGI (m 1) (m 2) (m 3) 16 (zCp w L 1) := by
    intro L' hL' hcl k hk hgp hne
    by_cases q' : L' = L
    · rw [q', zCp_l]; decide
    · rw [zCp_h hL' q']
      by_cases q : k = L
      · exact absurd (zGp_lim hP hL' hL hcl h8 (q ▸ hgp)).symm q'
      · rw [zCp_h hk q] at hne
        have := gi L' hL' hcl k hk hgp (by rw [Nat.zero_add]; exact hne)
        rw [Nat.zero_add] at this; exact this
  obtain ⟨e', ep, hI⟩ := q_passes (b := 16) hn (Or.inr rfl) hV bd' bl' gi'
  obtain ⟨f1, rfl⟩ : ∃ g, f1 = g + 1 := ⟨f1 - 1, by omega⟩
  refine ⟨e', ?_, hI⟩
  unfold m_X8_tries
  refine (show _ = _ from ee).trans ?_
  show m_X8_tries_j2 n (f1 + 1) (nI L) v (nI 16) (zS2 m e1 w1) = _
  have ep' : m_X8_passes n 16 (zS2 m (zCp e L v) (zCp w L 1)) = some (0, zS2 m e' (zKt (m 1) (m 2) (m 3) 16 (zCp w L 1) 16)) := ep
  rw [m_X8_tries_j2, if_pos n16e, show (16 : Int32) + nI L = nI (16 + L) from nI_add 16 L, zWr_n (by omega) (by decide), zS2_uv, zWr_n (by omega) (by decide), zS2_uw, zn_id _ (Or.inr rfl), ce, cw, ep', zBd_e, zRd_n hL (by decide), zS2_n (c := 3) (by decide) (by decide), g2, show (16 : Int32) + nI (zN (m 3 L)) = nI (16 + zN (m 3 L)) from nI_add 16 _, zRd_n (by omega) (by decide), zS2_w, zGd_e (zn_id _ (hI.2.2.2.1 _ (by omega))), ← g2]; rfl
/-- the reference's halving -/
theorem q_halves {n L : Nat} (hn : 100 ≤ n) {m : zS} {o : Nat → Nat} {tx : Int32 → Int32} {tot : Int32} (hV : zVr n m o tx tot) {e w : Nat → Int32} (bl : ∀ i, i < 32 → w i = 0 ∨ w i = 1) (gi : zGI (m 1) (m 2) (m 3) 0 w) (hL : L < 16) (h8 : m 1 L = 8) : ∀ d f lo hi (e1 w1 : Nat → Int32), d < f → hi - lo < 2 ^ d → lo ≤ 1000000000 → hi ≤ 1000000000 → (∀ i, i < 32 → zBn (e1 i)) → (∀ i, i < 32 → w1 i = 0 ∨ w1 i = 1) → (∀ i, (i < 16 ∨ 32 ≤ i) → e1 i = e i) → (∀ i, (i < 16 ∨ 32 ≤ i) → w1 i = w i) → ∃ (res : Int32) (e2 w2 : Nat → Int32), m_X8_halves_j14 n f (nI L) (nI lo) (nI hi) (zS2 m e1 w1) = some (0, zS2 m e2 w2) ∧ (∀ i, i < 32 → zBn (e2 i)) ∧ (∀ i, i < 32 → w2 i = 0 ∨ w2 i = 1) ∧ e2 L = res ∧ w2 L = 1 ∧ (∀ i, i < 16 → i ≠ L → e2 i = e i ∧ w2 i = w i) ∧ ∀ h : Int32 → Int32, (∀ a e', a ≤ 1000000000 → zPI m 16 (zPv (m 1) (m 2) (m 3) tx tot (m 4)) (zCp e L (nI a)) (zCp w L 1) e' (zKt (m 1) (m 2) (m 3) 16 (zCp w L 1) 16) → e' (16 + zN (m 3 L)) = h (nI a)) → res = zHl h d (nI lo) (nI hi) := by
  have hP := hV.1
  obtain ⟨g1, g2⟩ := zWf_g hP.1 hL (by rw [h8]; decide)
  have stop : ∀ d f lo hi (e1 w1 : Nat → Int32), 0 < f → hi ≤ lo → lo ≤ 1000000000 → (∀ i, i < 32 → zBn (e1 i)) → (∀ i, i < 32 → w1 i = 0 ∨ w1 i = 1) → (∀ i, (i < 16 ∨ 32 ≤ i) → e1 i = e i) → (∀ i, (i < 16 ∨ 32 ≤ i) → w1 i = w i) → ∃ (res : Int32) (e2 w2 : Nat → Int32), m_X8_halves_j14 n f (nI L) (nI lo) (nI hi) (zS2 m e1 w1) = some (0, zS2 m e2 w2) ∧ (∀ i, i < 32 → zBn (e2 i)) ∧ (∀ i, i < 32 → w2 i = 0 ∨ w2 i = 1) ∧ e2 L = res ∧ w2 L = 1 ∧ (∀ i, i < 16 → i ≠ L → e2 i = e i ∧ w2 i = w i) ∧ ∀ h : Int32 → Int32, (∀ a e', a ≤ 1000000000 → zPI m 16 (zPv (m 1) (m 2) (m 3) tx tot (m 4)) (zCp e L (nI a)) (zCp w L 1) e' (zKt (m 1) (m 2) (m 3) 16 (zCp w L 1) 16) → e' (16 + zN (m 3 L)) = h (nI a)) → res = zHl h d (nI lo) (nI hi) := by
    intro d f lo hi e1 w1 hf h1 h2 b1 b2 b3 b4
    obtain ⟨f, rfl⟩ : ∃ g, f = g + 1 := ⟨f - 1, by omega⟩
    refine ⟨nI lo, upd e1 L (nI lo), upd w1 L 1, ?_, fun i hi => ?_, fun i hi => ?_, upd_s, upd_s, fun i hi hne => ?_, fun h _ => (zHl_d h1 h2).symm⟩
    · rw [m_X8_halves_j14, if_pos (nI_le h1 (by omega)), zWr_n (by omega) (by decide), zS2_uv, zWr_n (by omega) (by decide), zS2_uw, zn_id _ (Or.inr rfl)]; rfl
    · by_cases q : i = L
      · rw [q, upd_s]; exact ⟨lo, h2, rfl⟩
      · rw [upd_n q]; exact b1 i hi
    · by_cases q : i = L
      · rw [q, upd_s]; exact Or.inr rfl
      · rw [upd_n q]; exact b2 i hi
    · rw [upd_n hne, upd_n hne]; exact ⟨b3 i (Or.inl hi), b4 i (Or.inl hi)⟩
  intro d
  induction d with
  | zero => intro f lo hi e1 w1 hf hw hl hh; exact stop 0 f lo hi e1 w1 hf (by omega) hl
  | succ d ih =>
    intro f lo hi e1 w1 hf hw hl hh b1 b2 b3 b4
    rcases (Nat.lt_or_ge lo hi).symm with hge | hlt
    · exact stop (d + 1) f lo hi e1 w1 (by omega) hge hl b1 b2 b3 b4
    · obtain ⟨f, rfl⟩ : ∃ g, f = g + 1 := ⟨f - 1, by omega⟩
      have hp : 2 ^ (d + 1) = 2 * 2 ^ d := by rw [Nat.pow_succ]; omega
      have gi1 : zGI (m 1) (m 2) (m 3) 0 w1 := by
        intro L' hL' hcl k hk hgp hne
        rw [Nat.zero_add] at hne ⊢
        rw [b4 k (Or.inl hk)] at hne
        rw [b4 L' (Or.inl hL')]
        have := gi L' hL' hcl k hk hgp (by rw [Nat.zero_add]; exact hne)
        rw [Nat.zero_add] at this; exact this
      obtain ⟨e', et, hI⟩ := q_tries (v := nI (lo + (hi - lo + 1) / 2)) hn hV b1 b2 gi1 hL h8 ⟨_, by omega, rfl⟩
      rw [zCp_c b3, zCp_c b4] at hI
      rw [zCp_c b4] at et
      have b1' := hI.1
      have b2' := hI.2.2.2.1
      have b3' : ∀ i, (i < 16 ∨ 32 ≤ i) → e' i = e i := fun i hi => by rw [hI.2.1 i (by omega), zCp_o hL hi]
      have b4' : ∀ i, (i < 16 ∨ 32 ≤ i) → zKt (m 1) (m 2) (m 3) 16 (zCp w L 1) 16 i = w i := fun i hi => by rw [zKt_o (by omega), zCp_o hL hi]
      by_cases hc : e' (16 + zN (m 3 L)) < nI (lo + (hi - lo + 1) / 2)
      · obtain ⟨res, e2, w2, r1, r2, r3, r4, r5, r6, r7⟩ := ih f lo (lo + (hi - lo + 1) / 2 - 1) e' _ (by omega) (by omega) hl (by omega) b1' b2' b3' b4'
        refine ⟨res, e2, w2, ?_, r2, r3, r4, r5, r6, fun h hh' => ?_⟩
        · rw [m_X8_halves_j14, if_neg (nI_ge hlt (by omega)), zLt_e, mid_r hlt hh, et, zBd_e, zRd_n hL (by decide), zS2_n (c := 3) (by decide) (by decide), g2, show (16 : Int32) + nI (zN (m 3 L)) = nI (16 + zN (m 3 L)) from nI_add 16 _, zRd_n (by omega) (by decide), zS2_v, if_pos hc, zLt_e, n_s1 (by omega)]
          exact r1
        · rw [zHl_s hlt hh, ← hh' _ e' (by omega) hI, if_pos hc]
          exact r7 h hh'
      · obtain ⟨res, e2, w2, r1, r2, r3, r4, r5, r6, r7⟩ := ih f (lo + (hi - lo + 1) / 2) hi e' _ (by omega) (by omega) (by omega) hh b1' b2' b3' b4'
        refine ⟨res, e2, w2, ?_, r2, r3, r4, r5, r6, fun h hh' => ?_⟩
        · rw [m_X8_halves_j14, if_neg (nI_ge hlt (by omega)), zLt_e, mid_r hlt hh, et, zBd_e, zRd_n hL (by decide), zS2_n (c := 3) (by decide) (by decide), g2, show (16 : Int32) + nI (zN (m 3 L)) = nI (16 + zN (m 3 L)) from nI_add 16 _, zRd_n (by omega) (by decide), zS2_v, if_neg hc]
          exact r1
        · rw [zHl_s hlt hh, ← hh' _ e' (by omega) hI, if_neg hc]
          exact r7 h hh'
end PTr
end
section
section PSo
/-! the reference solves all lines -/
def zSol (K F G : Nat → Int32) (o : Nat → Nat) (pv : (Nat → Int32) → Nat → Int32) (fx its : Int32) (D : Nat → Prop) (ve : Nat → Int32) : Prop := zDc K F G D ∧ (∀ k, k < 16 → D k → zBn (ve k)) ∧ (∀ k, k < 16 → nI k = fx → D k → ve k = its) ∧ (∀ k, k < 16 → D k → nI k ≠ fx → ¬ zCl K F G k → ve k = pv ve k) ∧ ∀ p, p < 16 → D (o p) → zCl K F G (o p) → nI (o p) ≠ fx → ∃ c, zEx K F G o p c ∧ ve (o p) = zHl (fun mid => zSup pv o (p + 1) (c - 1) (upd ve (o p) mid) (zN (G (o p)))) 31 0 (ve (zN (F (o p))))
def zSJ (m : zS) (o : Nat → Nat) (pv : (Nat → Int32) → Nat → Int32) (fx its : Int32) (e w : Nat → Int32) : Prop := (∀ i, i < 32 → zBn (e i)) ∧ (∀ i, i < 32 → w i = 0 ∨ w i = 1) ∧ zGI (m 1) (m 2) (m 3) 0 w ∧ (∀ k, k < 16 → nI k = fx → w k ≠ 0) ∧ (∀ D ve, zSol (m 1) (m 2) (m 3) o pv fx its D ve → ∀ k, k < 16 → D k → w k ≠ 0 → e k = ve k) ∧ ∀ p, p ≤ 16 → (∀ q, q < p → zCl (m 1) (m 2) (m 3) (o q) → w (o q) ≠ 0) → ∀ q, q < p → w (o q) ≠ 0
/-- a pass of the lines themselves -/
theorem q_base {n : Nat} (hn : 100 ≤ n) {m : zS} {o : Nat → Nat} {tx : Int32 → Int32} {tot fx its : Int32} (hV : zVr n m o tx tot) {e w : Nat → Int32} (bd : ∀ i, i < 32 → zBn (e i)) (bl : ∀ i, i < 32 → w i = 0 ∨ w i = 1) (gi : zGI (m 1) (m 2) (m 3) 0 w) (hf : ∀ k, k < 16 → nI k = fx → w k ≠ 0) (hs : ∀ D ve, zSol (m 1) (m 2) (m 3) o (zPv (m 1) (m 2) (m 3) tx tot (m 4)) fx its D ve → ∀ k, k < 16 → D k → w k ≠ 0 → e k = ve k) : ∃ e' w', m_X8_passes n 0 (zS2 m e w) = some (0, zS2 m e' w') ∧ zSJ m o (zPv (m 1) (m 2) (m 3) tx tot (m 4)) fx its e' w' ∧ ∀ k, k < 16 → w k ≠ 0 → w' k ≠ 0 := by
  obtain ⟨e', ep, h1, h2, h3, h4, h5, h6⟩ := q_passes (b := 0) hn (Or.inl rfl) hV bd bl gi
  simp only [Nat.zero_add] at h2 h3 h6
  refine ⟨e', _, ep, ⟨h1, h4, h5, fun k hk hfx => (h3 k hk (hf k hk hfx)).2, fun D ve hS k hk hD hw => ?_, fun p hp hq => ?_⟩, fun k hk hw => (h3 k hk hw).2⟩
  · refine h6 D ve hS.1 (fun k hk hD hw => hs D ve hS k hk hD hw) (fun k hk hD hc h0 => hS.2.2.2.1 k hk hD (fun q => hf k hk q h0) hc) k hk hD hw
  · have key := zKt_all (b := 0) hV.1 (w := w) hp (fun q hq' hc => ?_)
    · simp only [Nat.zero_add] at key; exact key
    · have := hq q hq' hc
      rw [Nat.zero_add]
      -- a LIMIT of a circle was known before
      refine Classical.byContradiction (fun h0 => ?_)
      have h0 : w (o q) = 0 := Classical.byContradiction h0
      have hoq := hV.1.2.1 q (by omega)
      have ncl : ∀ t, t ≤ 16 → zKt (m 1) (m 2) (m 3) 0 w t (o q) = 0 := by
        have one : ∀ x : Nat → Int32, zGI (m 1) (m 2) (m 3) 0 x → x (o q) = 0 → ∀ i, i ≤ 16 → zKi (m 1) (m 2) (m 3) 0 x i (o q) = 0 := by
          intro x hx hx0 i
          induction i with
          | zero => intro _; exact hx0
          | succ i ih =>
            intro hi
            rw [zKi]
            by_cases ei : i = o q
            · unfold zK1
              rw [if_neg (fun hh => ?_)]
              · exact ih (by omega)
              · have := zK1_ncl hV.1 (k := i) (by omega) (zKi_gi hV.1 hx i (by omega)) (zCan_iff.mp hh.1) hh.2
                exact this (ei ▸ hc)
            · rw [zK1_o (by omega)]; exact ih (by omega)
        intro t
        induction t with
        | zero => intro _; exact h0
        | succ t ih => intro ht; rw [zKt]; exact one _ (zKt_gi hV.1 gi t) (ih (by omega)) 16 (Nat.le_refl _)
      exact this (ncl 16 (Nat.le_refl _))
/-- one LIMIT is tried and, if that serves, halved -/
theorem q_limit {n i : Nat} (hn : 100 ≤ n) {m : zS} {o : Nat → Nat} {tx : Int32 → Int32} {tot fx its : Int32} (hV : zVr n m o tx tot) {e w : Nat → Int32} (hJ : zSJ m o (zPv (m 1) (m 2) (m 3) tx tot (m 4)) fx its e w) (hi : i < 16) (h8 : m 1 i = 8) (h0 : w i = 0) (hF : w (zN (m 2 i)) ≠ 0) : (∃ e1 w1, m_X8_tries n (nI i) 0 (zS2 m e w) = some (0, zS2 m e1 w1) ∧ zSJ m o (zPv (m 1) (m 2) (m 3) tx tot (m 4)) fx its e1 w1 ∧ (∀ k, k < 16 → w1 k = w k) ∧ zKt (m 1) (m 2) (m 3) 16 (zCp w i 1) 16 (16 + zN (m 3 i)) = 0) ∨ ∃ e1 w1 e2 w2 e3 w3, m_X8_tries n (nI i) 0 (zS2 m e w) = some (1, zS2 m e1 w1) ∧ m_X8_halves n (nI i) (zS2 m e1 w1) = some (0, zS2 m e2 w2) ∧ m_X8_passes n 0 (zS2 m e2 w2) = some (0, zS2 m e3 w3) ∧ zSJ m o (zPv (m 1) (m 2) (m 3) tx tot (m 4)) fx its e3 w3 ∧ (∀ k, k < 16 → w k ≠ 0 → w3 k ≠ 0) ∧ w3 i ≠ 0 := by
  have hP := hV.1
  have hw := hP.1
  obtain ⟨j1, j2, j3, j4, j5, j6⟩ := hJ
  have hK0 : m 1 i ≠ 0 := by rw [h8]; decide
  have hT : zTwo (m 1 i) = true := by rw [h8]; decide
  obtain ⟨f1, f2⟩ := zWf_f hw hi hK0
  obtain ⟨g1, g2⟩ := zWf_g hw hi hT
  obtain ⟨e1, et, hI⟩ := q_tries hn hV j1 j2 j3 hi h8 zBn_0
  have b3 : ∀ k, (k < 16 ∨ 32 ≤ k) → e1 k = e k := fun k hk => by rw [hI.2.1 k (by omega), zCp_o hi hk]
  have b4 : ∀ k, (k < 16 ∨ 32 ≤ k) → zKt (m 1) (m 2) (m 3) 16 (zCp w i 1) 16 k = w k := fun k hk => by rw [zKt_o (by omega), zCp_o hi hk]
  rcases hI.2.2.2.1 (16 + zN (m 3 i)) (by omega) with hr | hr
  · refine Or.inl ⟨e1, _, by rw [et, hr], ⟨hI.1, hI.2.2.2.1, fun L hL hcl k hk hg hne => ?_, fun k hk hfx => ?_, fun D ve hS k hk hD hne => ?_, fun p hp hq q hq' => ?_⟩, fun k hk => b4 k (Or.inl hk), hr⟩
    · rw [Nat.zero_add] at hne ⊢
      rw [b4 k (Or.inl hk)] at hne
      rw [b4 L (Or.inl hL)]
      have := j3 L hL hcl k hk hg (by rw [Nat.zero_add]; exact hne)
      rw [Nat.zero_add] at this; exact this
    · rw [b4 k (Or.inl hk)]; exact j4 k hk hfx
    · rw [b4 k (Or.inl hk)] at hne
      rw [b3 k (Or.inl hk)]; exact j5 D ve hS k hk hD hne
    · rw [b4 _ (Or.inl (hP.2.1 q (by omega)))]
      refine j6 p hp (fun q' hq'' hc => ?_) q hq'
      have := hq q' hq'' hc
      rw [b4 _ (Or.inl (hP.2.1 q' (by omega)))] at this; exact this
  · -- it serves
    obtain ⟨a, ha, ea⟩ := j1 (zN (m 2 i)) (by omega)
    obtain ⟨res, e2, w2, r1, r2, r3, r4, r5, r6, r7⟩ := q_halves hn hV j2 j3 hi h8 31 n 0 a e1 _ (by omega) (by omega) (by omega) ha hI.1 hI.2.2.2.1 b3 b4
    have eh : m_X8_halves n (nI i) (zS2 m e1 (zKt (m 1) (m 2) (m 3) 16 (zCp w i 1) 16)) = some (0, zS2 m e2 w2) := by
      unfold m_X8_halves
      rw [zRd_n hi (by decide), zS2_n (c := 2) (by decide) (by decide), f2, zRd_n (by omega) (by decide), zS2_v, b3 _ (Or.inl f1), ea]
      exact r1
    have gi2 : zGI (m 1) (m 2) (m 3) 0 w2 := by
      intro L hL hcl k hk hg hne
      rw [Nat.zero_add] at hne ⊢
      by_cases eL : L = i
      · rw [eL, r5]; decide
      · rw [(r6 L hL eL).2]
        by_cases ek : k = i
        · exact absurd (zGp_lim hP hL hi hcl h8 (ek ▸ hg)).symm eL
        · rw [(r6 k hk ek).2] at hne
          have := j3 L hL hcl k hk hg (by rw [Nat.zero_add]; exact hne)
          rw [Nat.zero_add] at this; exact this
    have hf2 : ∀ k, k < 16 → nI k = fx → w2 k ≠ 0 := by
      intro k hk hfx
      by_cases ek : k = i
      · rw [ek, r5]; decide
      · rw [(r6 k hk ek).2]; exact j4 k hk hfx
    have hs2 : ∀ D ve, zSol (m 1) (m 2) (m 3) o (zPv (m 1) (m 2) (m 3) tx tot (m 4)) fx its D ve → ∀ k, k < 16 → D k → w2 k ≠ 0 → e2 k = ve k := by
      intro D ve hS k hk hD hne
      rcases (Classical.em (k = i)).symm with ek | ek
      · rw [(r6 k hk ek).1]
        rw [(r6 k hk ek).2] at hne
        exact j5 D ve hS k hk hD hne
      · subst ek
        rw [r4]
        obtain ⟨p, hp, ep⟩ := zPn_pos hP hk
        have nfx : nI k ≠ fx := fun q => j4 k hk q h0
        have Df : D (zN (m 2 k)) := hS.1 k _ hk f1 hD (Or.inl ⟨hK0, rfl⟩)
        have Dg : D (zN (m 3 k)) := hS.1 k _ hk g1 hD (Or.inr ⟨hT, rfl, rfl⟩)
        have vF : e (zN (m 2 k)) = ve (zN (m 2 k)) := j5 D ve hS _ f1 Df hF
        -- what a trial shows, by any extent of the circle
        have show_h : ∀ c, zEx (m 1) (m 2) (m 3) o p c → res = zHl (fun mid => zSup (zPv (m 1) (m 2) (m 3) tx tot (m 4)) o (p + 1) (c - 1) (upd ve k mid) (zN (m 3 k))) 31 0 (ve (zN (m 2 k))) := by
          intro c hx
          have hc0 := hx.1
          have hc1 := hx.2.1
          rw [← vF, ea]
          refine r7 _ (fun x e' hx' hI' => ?_)
          have h8p : m 1 (o p) = 8 := by rw [ep]; exact h8
          -- who stands in the circle
          have inG : ∀ r, p ≤ r → r < p + c → zGp (m 1) (m 2) (m 3) k (o r) := fun r a b => ep ▸ hx.2.2.1 r a b
          have out : ∀ j, j < 16 → ¬ zGp (m 1) (m 2) (m 3) k j → zSup (zPv (m 1) (m 2) (m 3) tx tot (m 4)) o (p + 1) (c - 1) (upd ve k (nI x)) j = ve j := by
            intro j hj hng
            rw [zSup_out (k := j) _ _ _ (fun r a b er => hng (by have := inG r (by omega) (by omega); rw [er] at this; exact this)), upd_n (fun q => hng (Or.inl q))]
          have atk : zSup (zPv (m 1) (m 2) (m 3) tx tot (m 4)) o (p + 1) (c - 1) (upd ve k (nI x)) k = nI x := by
            rw [zSup_out _ _ _ (fun r a b er => by have := hP.2.2.1 r p (by omega) hp (er.trans ep.symm); omega), upd_s]
          refine hI'.2.2.2.2.2 (fun j => D j ∧ (¬ zR (m 1) (m 2) (m 3) j k = true ∨ zGp (m 1) (m 2) (m 3) k j)) (zSup (zPv (m 1) (m 2) (m 3) tx tot (m 4)) o (p + 1) (c - 1) (upd ve k (nI x))) ?_ ?_ ?_ _ g1 ⟨Dg, ?_⟩ (by rw [hr]; decide)
          · intro u j hu hj ⟨du, hd⟩ hub
            refine ⟨hS.1 u j hu hj du hub, ?_⟩
            have ruj := zR_u hw hu hub
            by_cases hjk : zR (m 1) (m 2) (m 3) j k = true
            · right
              rcases hd with hd | hd
              · exact absurd (zTC_tr hj ruj hjk) hd
              · rcases hd with e | ⟨q1, q2⟩
                · exact Or.inr ⟨e ▸ ruj, hjk⟩
                · exact Or.inr ⟨zTC_tr hu q1 ruj, hjk⟩
            · exact Or.inl hjk
          · intro j hj ⟨dj, _⟩ hne
            by_cases ej : j = k
            · rw [ej, zCp_l, atk]
            · rw [zCp_h hj ej] at hne ⊢
              have hng : ¬ zGp (m 1) (m 2) (m 3) k j := by
                intro hg
                rcases hg with h | ⟨q1, q2⟩
                · exact ej h
                · have := j3 k hk ⟨h8, zTC_tr hj q1 q2⟩ j hj (Or.inr ⟨q1, q2⟩) (by rw [Nat.zero_add]; exact hne)
                  rw [Nat.zero_add] at this; exact this h0
              rw [out j hj hng]
              exact j5 D ve hS j hj dj hne
          · intro j hj ⟨dj, hd⟩ hnc hn0
            have ej : j ≠ k := fun q => by rw [q, zCp_l] at hn0; exact absurd hn0 (by decide)
            rw [zCp_h hj ej] at hn0
            by_cases hg : zGp (m 1) (m 2) (m 3) k j
            · obtain ⟨r, q1, q2, q3⟩ := hx.2.2.2 j hj (by rw [ep]; exact hg)
              have hrp : p < r := by
                rcases Nat.lt_or_ge p r with h | h
                · exact h
                · exact absurd (by rw [← q3, ← ep]; congr 1; omega) ej
              rw [← q3]
              exact zSup_in (U := zUb (m 1) (m 2) (m 3) false) (fun k e1 e2 hk h => zPv_c hw hk h) hP.2.1 hP.2.2.1 (c - 1) (p + 1) _ (by omega) (zEx_use hP h8p hx) r (by omega) (by omega)
            · have nR : ¬ zR (m 1) (m 2) (m 3) j k = true := by
                rcases hd with h | h
                · exact h
                · exact absurd h hg
              rw [out j hj hg, hS.2.2.2.1 j hj dj (fun q => j4 j hj q hn0) hnc]
              refine zPv_c hw hj (fun u hu hub => (out u hu (fun hgu => ?_)).symm)
              rcases hgu with h | ⟨_, h⟩
              · exact nR (h ▸ zR_u hw hj hub)
              · exact nR (zTC_tr hu (zR_u hw hj hub) h)
          · by_cases hgk : zR (m 1) (m 2) (m 3) (zN (m 3 k)) k = true
            · exact Or.inr (Or.inr ⟨zR_u hw hk (Or.inr ⟨hT, rfl, rfl⟩), hgk⟩)
            · exact Or.inl hgk
        by_cases hcl : zCl (m 1) (m 2) (m 3) k
        · obtain ⟨c, hx, ev⟩ := hS.2.2.2.2 p hp (by rw [ep]; exact hD) (by rw [ep]; exact hcl) (by rw [ep]; exact nfx)
          rw [ep] at ev
          rw [ev]
          exact show_h c hx
        · -- no circle: the smaller one of the two
          obtain ⟨c, hx⟩ := zPn_ex hP hp (by rw [ep]; exact h8)
          rw [show_h c hx, hS.2.2.2.1 k hk hD nfx hcl, zPv_8 h8]
          obtain ⟨x, hx1, ex⟩ := hS.2.1 _ f1 Df
          obtain ⟨y, hy1, ey⟩ := hS.2.1 _ g1 Dg
          have ngp : ¬ zGp (m 1) (m 2) (m 3) k (zN (m 3 k)) := by
            have rkg := zR_u hw hk (Or.inr ⟨hT, rfl, rfl⟩ : zUb (m 1) (m 2) (m 3) false k (zN (m 3 k)))
            rintro (h | ⟨q1, q2⟩)
            · exact hcl ⟨h8, by rw [h] at rkg; exact rkg⟩
            · exact hcl ⟨h8, zTC_tr g1 q1 q2⟩
          have hc0 := hx.1
          have hc1 := hx.2.1
          have cst : (fun mid => zSup (zPv (m 1) (m 2) (m 3) tx tot (m 4)) o (p + 1) (c - 1) (upd ve k mid) (zN (m 3 k))) = fun _ => nI y := by
            funext mid
            rw [zSup_out (k := zN (m 3 k)) _ _ _ (fun r a b er => ngp (by have := hx.2.2.1 r (by omega) (by omega); rw [er, ep] at this; exact this)), upd_n (fun q => ngp (Or.inl q)), ey]
          rw [cst, ex, ey]
          have := zHl_const hy1 31 0 x (by omega) (Nat.zero_le _) hx1
          rw [show (0 : Int32) = nI 0 from rfl, this, n_min (by omega) (by omega), Nat.min_comm]
    obtain ⟨e3, w3, ep, hJ3, hm⟩ := q_base hn hV r2 r3 gi2 hf2 hs2
    refine Or.inr ⟨e1, _, e2, w2, e3, w3, by rw [et, hr], eh, ep, hJ3, fun k hk hne => hm k hk ?_, hm i hi (by rw [r5]; decide)⟩
    by_cases ek : k = i
    · rw [ek, r5]; decide
    · rw [(r6 k hk ek).2]; exact hne
theorem q_solves {n : Nat} (hn : 100 ≤ n) {m : zS} {o : Nat → Nat} {tx : Int32 → Int32} {tot fx its : Int32} (hV : zVr n m o tx tot) (bd : ∀ i, i < 32 → zBn (m 11 i)) (bl : ∀ i, i < 32 → m 12 i = 0 ∨ m 12 i = 1) (hf : ∀ k, k < 16 → nI k = fx → m 1 k = 8) (hits : zBn its) : ∃ e w, m_X8_solves n fx its m = some (0, zS2 m e w) ∧ (∀ i, i < 32 → zBn (e i)) ∧ (∀ i, i < 32 → w i = 0 ∨ w i = 1) ∧ ∀ D ve, zSol (m 1) (m 2) (m 3) o (zPv (m 1) (m 2) (m 3) tx tot (m 4)) fx its D ve → ∀ k, k < 16 → D k → e k = ve k := by
  have hP := hV.1
  -- the start
  obtain ⟨⟨e0, w0⟩, f1, hf1, ⟨a1, a2, a3⟩, ee⟩ := for_up (fun f k (x : (Nat → Int32) × (Nat → Int32)) => m_X8_solves_j2 n f fx its (nI k) (zS2 m x.1 x.2)) (fun k x => (∀ i, i < 32 → zBn (x.1 i)) ∧ (∀ i, i < 32 → x.2 i = 0 ∨ x.2 i = 1) ∧ ∀ i, i < k → x.1 i = (if nI i = fx then its else 0) ∧ x.2 i = if nI i = fx then 1 else 0) 16 (by
    rintro f k ⟨e, w⟩ hk ⟨h1, h2, h3⟩
    simp only at h1 h2 h3
    refine ⟨(upd e k (if nI k = fx then its else 0), upd w k (if nI k = fx then 1 else 0)), ⟨fun i hi => ?_, fun i hi => ?_, fun i hi => ?_⟩, ?_⟩
    · show zBn (upd e k _ i)
      by_cases q : i = k
      · rw [q, upd_s]; split
        · exact hits
        · exact zBn_0
      · rw [upd_n q]; exact h1 i hi
    · show upd w k _ i = 0 ∨ upd w k _ i = 1
      by_cases q : i = k
      · rw [q, upd_s]; split
        · exact Or.inr rfl
        · exact Or.inl rfl
      · rw [upd_n q]; exact h2 i hi
    · show upd e k _ i = _ ∧ upd w k _ i = _
      by_cases q : i = k
      · rw [q, upd_s, upd_s]; exact ⟨rfl, rfl⟩
      · rw [upd_n q, upd_n q]; exact h3 i (by omega)
    · show m_X8_solves_j2 n (f + 1) fx its (nI k) (zS2 m e w) = m_X8_solves_j2 n f fx its (nI (k + 1)) (zS2 m (upd e k _) (upd w k _))
      rw [m_X8_solves_j2, if_neg (n16 hk)]
      by_cases q : nI k = fx
      · rw [if_pos q, if_pos q, if_pos q]
        unfold m_X8_solves_j23
        rw [zWr_n (by omega) (by decide), zS2_uw, if_pos q, zWr_n (by omega) (by decide), zS2_uv, zLt_e, nI_s, zn_id _ (Or.inr rfl)]
      · rw [if_neg q, if_neg q, if_neg q]
        unfold m_X8_solves_j23
        rw [zWr_n (by omega) (by decide), zS2_uw, if_neg q, zWr_n (by omega) (by decide), zS2_uv, zLt_e, nI_s, zn_id _ (Or.inl rfl)]) 16 n 0 (m 11, m 12) rfl (by omega) ⟨bd, bl, fun i h => absurd h (Nat.not_lt_zero i)⟩
  simp only at a1 a2 a3
  obtain ⟨f1, rfl⟩ : ∃ g, f1 = g + 1 := ⟨f1 - 1, by omega⟩
  have kn : ∀ k, k < 16 → (w0 k ≠ 0 ↔ nI k = fx) := by
    intro k hk
    rw [(a3 k hk).2]
    by_cases q : nI k = fx
    · rw [if_pos q]; exact ⟨fun _ => q, fun _ => by decide⟩
    · rw [if_neg q]; exact ⟨fun h => absurd rfl h, fun h => absurd h q⟩
  obtain ⟨e1, w1, ep, hJ, _⟩ := q_base (fx := fx) (its := its) hn hV a1 a2 (fun L hL hcl k hk hg hne => by
    rw [Nat.zero_add] at hne ⊢
    have hkf := (kn k hk).mp hne
    rw [← zGp_lim hP hL hk hcl (hf k hk hkf) hg]; exact hne) (fun k hk hfx => (kn k hk).mpr hfx) (fun D ve hS k hk hD hne => by
    have hkf := (kn k hk).mp hne
    rw [(a3 k hk).1, if_pos hkf]
    exact (hS.2.2.1 k hk hkf hD).symm)
  -- the turns
  obtain ⟨⟨e2, w2⟩, f2, hf2, ⟨hJ2, hk2⟩, ee2⟩ := for_up (fun f t (x : (Nat → Int32) × (Nat → Int32)) => m_X8_solves_j53 n f (nI t) (zS2 m x.1 x.2)) (fun t x => zSJ m o (zPv (m 1) (m 2) (m 3) tx tot (m 4)) fx its x.1 x.2 ∧ ∀ q, q < t → x.2 (o q) ≠ 0) 16 (by
    rintro f t ⟨e, w⟩ ht ⟨hJ, hk⟩
    simp only at hJ hk
    obtain ⟨⟨e3, w3⟩, f3, hf3, ⟨hJ3, hk3, hk4⟩, ee3⟩ := for_up (fun f9 i (x : (Nat → Int32) × (Nat → Int32)) => m_X8_solves_j62 (m_X8_solves_j53 n f) n f9 (nI t) (nI i) (zS2 m x.1 x.2)) (fun i x => zSJ m o (zPv (m 1) (m 2) (m 3) tx tot (m 4)) fx its x.1 x.2 ∧ (∀ q, q < t → x.2 (o q) ≠ 0) ∧ (o t < i → x.2 (o t) ≠ 0)) 16 (by
      rintro f9 i ⟨e, w⟩ hi ⟨hJ, hk, hk'⟩
      simp only at hJ hk hk'
      have c1 : zS2 m e w 1 = m 1 := zS2_n (by decide) (by decide)
      have c2 : zS2 m e w 2 = m 2 := zS2_n (by decide) (by decide)
      have hot := hP.2.1 t ht
      -- the line whose turn it is
      have must : i = o t → w i = 0 → zCl (m 1) (m 2) (m 3) i ∧ w (zN (m 2 i)) ≠ 0 ∧ zKt (m 1) (m 2) (m 3) 16 (zCp w i 1) 16 (16 + zN (m 3 i)) ≠ 0 := by
        intro ei h0
        have hcl : zCl (m 1) (m 2) (m 3) (o t) := by
          refine Classical.byContradiction (fun hnc => ?_)
          refine hJ.2.2.2.2.2 (t + 1) (by omega) (fun q hq hc => ?_) t (by omega) (by rw [← ei]; exact h0)
          by_cases eq : q = t
          · rw [eq] at hc; exact absurd hc hnc
          · exact hk q (by omega)
        have hcl' : zCl (m 1) (m 2) (m 3) i := by rw [ei]; exact hcl
        refine ⟨hcl', ?_, ?_⟩
        · obtain ⟨q, hq, e⟩ := (hP.2.2.2.1 t ht).1 (by rw [hcl.1]; decide)
          rw [ei, ← e]; exact hk q hq
        · obtain ⟨c, hx⟩ := hP.2.2.2.2.1 t ht hcl
          have hc1 := hx.2.1
          have key := zKt_all (b := 16) hP (w := zCp w i 1) (p := t + c) hc1 (fun q hq hc => by
            by_cases eq : q = t
            · rw [eq, ← ei, zCp_l]; decide
            · have hoq := hP.2.1 q (by omega)
              rw [zCp_h hoq (fun h => eq (hP.2.2.1 q t (by omega) ht (h.trans ei)))]
              rcases Nat.lt_or_ge q t with h | h
              · exact hk q h
              · exact absurd hc.1 (zEx_n8 hP hcl.1 hx (by omega) hq))
          have hg := (zWf_g hP.1 hi (by rw [hcl'.1]; decide)).1
          obtain ⟨r, r1, r2, r3⟩ := hx.2.2.2 _ hg (by rw [← ei]; exact zCl_g hP hi hcl')
          rw [← r3]
          exact key r r2
      have skip : (i = o t → w i ≠ 0) → (zSJ m o (zPv (m 1) (m 2) (m 3) tx tot (m 4)) fx its e w ∧ (∀ q, q < t → w (o q) ≠ 0) ∧ (o t < i + 1 → w (o t) ≠ 0)) := by
        intro h
        refine ⟨hJ, hk, fun hlt => ?_⟩
        by_cases eq : i = o t
        · rw [← eq]; exact h eq
        · exact hk' (by omega)
      rcases (Classical.em (m 1 i = 8)).symm with h8 | h8
      · refine ⟨(e, w), skip (fun ei h0 => h8 (must ei h0).1.1), ?_⟩
        show m_X8_solves_j62 _ n (f9 + 1) (nI t) (nI i) (zS2 m e w) = _
        rw [m_X8_solves_j62, if_neg (n16 hi), zRd_n hi (by decide), c1, if_neg h8]
        unfold m_X8_solves_j127
        rw [zLt_e, nI_s]
      rcases (Classical.em (w i = 0)).symm with h0 | h0
      · refine ⟨(e, w), skip (fun _ => h0), ?_⟩
        show m_X8_solves_j62 _ n (f9 + 1) (nI t) (nI i) (zS2 m e w) = _
        rw [m_X8_solves_j62, if_neg (n16 hi), zRd_n hi (by decide), c1, if_pos h8, zRd_n (by omega) (by decide), zS2_w, if_neg h0]
        unfold m_X8_solves_j127
        rw [zLt_e, nI_s]
      obtain ⟨f1, f2⟩ := zWf_f hP.1 hi (by rw [h8]; decide)
      by_cases hF : w (zN (m 2 i)) = 0
      · refine ⟨(e, w), skip (fun ei => absurd hF (must ei h0).2.1), ?_⟩
        show m_X8_solves_j62 _ n (f9 + 1) (nI t) (nI i) (zS2 m e w) = _
        rw [m_X8_solves_j62, if_neg (n16 hi), zRd_n hi (by decide), c1, if_pos h8, zRd_n (by omega) (by decide), zS2_w, if_pos h0, zRd_n hi (by decide), c2, f2, zRd_n (by omega) (by decide), if_pos hF]
        unfold m_X8_solves_j127
        rw [zLt_e, nI_s]
      · have run : ∀ x, m_X8_solves_j62 (m_X8_solves_j53 n f) n (f9 + 1) (nI t) (nI i) (zS2 m e w) = x ↔ (zBd (m_X8_tries n (nI i) (0 : Int32) (zS2 m e w)) fun x11 s12 => if x11 = 0 then (m_X8_solves_j127 (m_X8_solves_j53 n f) (m_X8_solves_j62 (m_X8_solves_j53 n f) n f9) n (nI t) (nI i) s12) else (zBd (m_X8_halves n (nI i) s12) fun x14 s15 => zBd (m_X8_passes n (0 : Int32) s15) fun x16 s17 => m_X8_solves_j127 (m_X8_solves_j53 n f) (m_X8_solves_j62 (m_X8_solves_j53 n f) n f9) n (nI t) (nI i) s17)) = x := by
          intro x
          rw [m_X8_solves_j62, if_neg (n16 hi), zRd_n hi (by decide), c1, if_pos h8, zRd_n (by omega) (by decide), zS2_w, if_pos h0, zRd_n hi (by decide), c2, f2, zRd_n (by omega) (by decide), if_neg hF]
        rcases q_limit hn hV hJ hi h8 h0 hF with ⟨ea, wa, q1, q2, q3, q4⟩ | ⟨ea, wa, eb, wb, ec, wc, q1, q2, q3, q4, q5, q6⟩
        · refine ⟨(ea, wa), ⟨q2, fun q hq => by show wa (o q) ≠ 0; rw [q3 _ (hP.2.1 q (by omega))]; exact hk q hq, fun hlt => ?_⟩, ?_⟩
          · show wa (o t) ≠ 0
            rw [q3 _ hot]
            by_cases eq : i = o t
            · exact absurd q4 (must eq h0).2.2
            · exact hk' (by omega)
          · show m_X8_solves_j62 _ n (f9 + 1) (nI t) (nI i) (zS2 m e w) = _
            rw [run, q1, zBd_e, if_pos rfl]
            unfold m_X8_solves_j127
            rw [zLt_e, nI_s]
        · refine ⟨(ec, wc), ⟨q4, fun q hq => q5 _ (hP.2.1 q (by omega)) (hk q hq), fun hlt => ?_⟩, ?_⟩
          · show wc (o t) ≠ 0
            by_cases eq : i = o t
            · rw [← eq]; exact q6
            · exact q5 _ hot (hk' (by omega))
          · show m_X8_solves_j62 _ n (f9 + 1) (nI t) (nI i) (zS2 m e w) = _
            rw [run, q1, zBd_e, if_neg (by decide), q2, zBd_e, q3, zBd_e]
            unfold m_X8_solves_j127
            rw [zLt_e, nI_s]) 16 n 0 (e, w) rfl (by omega) ⟨hJ, hk, fun h => absurd h (Nat.not_lt_zero _)⟩
    simp only at hJ3 hk3 hk4
    obtain ⟨f3, rfl⟩ : ∃ g, f3 = g + 1 := ⟨f3 - 1, by omega⟩
    refine ⟨(e3, w3), ⟨hJ3, fun q hq => ?_⟩, ?_⟩
    · show w3 (o q) ≠ 0
      by_cases eq : q = t
      · rw [eq]; exact hk4 (hP.2.1 t ht)
      · exact hk3 q (by omega)
    · show m_X8_solves_j53 n (f + 1) (nI t) (zS2 m e w) = m_X8_solves_j53 n f (nI (t + 1)) (zS2 m e3 w3)
      rw [m_X8_solves_j53, if_neg (n16 ht)]
      refine (show _ = _ from ee3).trans ?_
      show m_X8_solves_j62 _ n (f3 + 1) (nI t) (nI 16) (zS2 m e3 w3) = _
      rw [m_X8_solves_j62, if_pos n16e, zLt_e, nI_s]) 16 n 0 (e1, w1) rfl (by omega) ⟨hJ, fun q h => absurd h (Nat.not_lt_zero q)⟩
  simp only at hJ2 hk2
  obtain ⟨f2, rfl⟩ : ∃ g, f2 = g + 1 := ⟨f2 - 1, by omega⟩
  refine ⟨e2, w2, ?_, hJ2.1, hJ2.2.1, fun D ve hS k hk hD => ?_⟩
  · unfold m_X8_solves
    have ee' : m_X8_solves_j2 n n fx its 0 m = m_X8_solves_j2 n (f1 + 1) fx its (nI 16) (zS2 m e0 w0) := by
      have := ee
      simp only at this
      rw [zS2_i] at this
      exact this
    rw [ee', m_X8_solves_j2, if_pos n16e, ep, zBd_e]
    refine (show _ = _ from ee2).trans ?_
    show m_X8_solves_j53 n (f2 + 1) (nI 16) (zS2 m e2 w2) = _
    rw [m_X8_solves_j53, if_pos n16e]; rfl
  · obtain ⟨p, hp, e⟩ := zPn_pos hP hk
    exact hJ2.2.2.2.2.1 D ve hS k hk hD (e ▸ hk2 p hp)
end PSo
end
section
section PEq
/-! both have the same values -/
theorem v_all {K F G : Nat → Int32} {o : Nat → Nat} {tx : Int32 → Int32} {tot its : Int32} {an e : Nat → Int32} (hP : zPn K F G o) (hb : ∀ k, k < 16 → zBn (e k)) (hq : ∀ p, p < 16 → zVq K F G o (zPv K F G tx tot an) e p) : zSol K F G o (zPv K F G tx tot an) (-1) its (fun _ => True) e := by
  refine ⟨fun _ _ _ _ _ _ => trivial, fun k hk _ => hb k hk, fun k hk h => absurd h (zn_L hk), fun k hk _ _ hn => ?_, fun p hp _ hc _ => (hq p hp).2 hc⟩
  obtain ⟨p, hp, ep⟩ := zPn_pos hP hk
  subst ep
  exact (hq p hp).1 hn
theorem v_bound {K F G : Nat → Int32} {o : Nat → Nat} {tx : Int32 → Int32} {tot v : Int32} {an e : Nat → Int32} {p c : Nat} (hP : zPn K F G o) (hb : ∀ k, k < 16 → zBn (e k)) (hq : ∀ p, p < 16 → zVq K F G o (zPv K F G tx tot an) e p) (h8 : K (o p) = 8) (hx : zEx K F G o p c) (hb2 : ∀ k, k < 16 → zBn (zSup (zPv K F G tx tot an) o (p + 1) (c - 1) (upd e (o p) v) k)) : zSol K F G o (zPv K F G tx tot an) (nI (o p)) v (fun j => ¬ zR K F G j (o p) = true ∨ zGp K F G (o p) j) (zSup (zPv K F G tx tot an) o (p + 1) (c - 1) (upd e (o p) v)) := by
  have hw := hP.1
  have hc0 := hx.1
  have hc1 := hx.2.1
  have hp : p < 16 := by omega
  have hL := hP.2.1 p hp
  have inG : ∀ r, p ≤ r → r < p + c → zGp K F G (o p) (o r) := hx.2.2.1
  have out : ∀ j, j < 16 → ¬ zGp K F G (o p) j → zSup (zPv K F G tx tot an) o (p + 1) (c - 1) (upd e (o p) v) j = e j := by
    intro j hj hng
    rw [zSup_out (k := j) _ _ _ (fun r a b er => hng (by have := inG r (by omega) (by omega); rw [er] at this; exact this)), upd_n (fun q => hng (Or.inl q))]
  have atk : zSup (zPv K F G tx tot an) o (p + 1) (c - 1) (upd e (o p) v) (o p) = v := by
    rw [zSup_out (k := o p) _ _ _ (fun r a b er => by have := hP.2.2.1 r p (by omega) hp er; omega), upd_s]
  have nR : ∀ j, j < 16 → ¬ zR K F G j (o p) = true → ¬ j = o p → ¬ zGp K F G (o p) j := by
    intro j hj h1 h2 hg
    rcases hg with h | ⟨_, h⟩
    · exact h2 h
    · exact h1 h
  refine ⟨?_, fun k hk _ => hb2 k hk, fun k hk hfx _ => ?_, fun j hj hd hfx hnc => ?_, fun p' hp' hd hcl hfx => ?_⟩
  · intro u j hu hj hd hub
    have ruj := zR_u hw hu hub
    by_cases hjk : zR K F G j (o p) = true
    · right
      rcases hd with hd | hd
      · exact absurd (zTC_tr hj ruj hjk) hd
      · rcases hd with e | ⟨q1, q2⟩
        · exact Or.inr ⟨e ▸ ruj, hjk⟩
        · exact Or.inr ⟨zTC_tr hu q1 ruj, hjk⟩
    · exact Or.inl hjk
  · have : k = o p := (eq_n (by omega) (by omega)).mp hfx
    rw [this]; exact atk
  · have ej : j ≠ o p := fun q => hfx (by rw [q])
    by_cases hg : zGp K F G (o p) j
    · obtain ⟨r, q1, q2, q3⟩ := hx.2.2.2 j hj hg
      have hrp : p < r := by
        rcases Nat.lt_or_ge p r with h | h
        · exact h
        · exact absurd (by rw [← q3]; congr 1; omega) ej
      rw [← q3]
      exact zSup_in (U := zUb K F G false) (fun k e1 e2 hk h => zPv_c hw hk h) hP.2.1 hP.2.2.1 (c - 1) (p + 1) _ (by omega) (zEx_use hP h8 hx) r (by omega) (by omega)
    · have hn : ¬ zR K F G j (o p) = true := by
        rcases hd with h | h
        · exact h
        · exact absurd h hg
      obtain ⟨t, ht, et⟩ := zPn_pos hP hj
      rw [out j hj hg]
      have := (hq t ht).1 (by rw [et]; exact hnc)
      rw [et] at this
      rw [this]
      refine zPv_c hw hj (fun u hu hub => (out u hu (fun hgu => ?_)).symm)
      rcases hgu with h | ⟨_, h⟩
      · exact hn (h ▸ zR_u hw hj hub)
      · exact hn (zTC_tr hu (zR_u hw hj hub) h)
  · have hL' := hP.2.1 p' hp'
    have ne : ¬ o p' = o p := fun q => hfx (by rw [q])
    have hng : ¬ zGp K F G (o p) (o p') := by
      intro hg
      rcases hg with h | ⟨q1, q2⟩
      · exact ne h
      · exact ne ((hP.2.2.2.2.2 (o p) hL ⟨h8, zTC_tr hL' q1 q2⟩).1 (o p') hL' q1 q2 hcl.1)
    have hnR : ¬ zR K F G (o p') (o p) = true := by
      rcases hd with h | h
      · exact h
      · exact absurd h hng
    obtain ⟨c', hx', ev⟩ := (hq p' hp').2 hcl
    have hc0' := hx'.1
    have hc1' := hx'.2.1
    have hT : zTwo (K (o p')) = true := by rw [hcl.1]; decide
    have hf := (zWf_f hw hL' (zTwo_ne hT)).1
    have hg := (zWf_g hw hL' hT).1
    have uF : zUb K F G false (o p') (zN (F (o p'))) := Or.inl ⟨zTwo_ne hT, rfl⟩
    have uG : zUb K F G false (o p') (zN (G (o p'))) := Or.inr ⟨hT, rfl, rfl⟩
    have agree : ∀ j, j < 16 → ¬ zR K F G j (o p) = true → j ≠ o p → zSup (zPv K F G tx tot an) o (p + 1) (c - 1) (upd e (o p) v) j = e j := fun j hj h1 h2 => out j hj (nR j hj h1 h2)
    have nF : ¬ zR K F G (zN (F (o p'))) (o p) = true := fun h => hnR (zTC_tr hf (zR_u hw hL' uF) h)
    have nG : ¬ zR K F G (zN (G (o p'))) (o p) = true := fun h => hnR (zTC_tr hg (zR_u hw hL' uG) h)
    have neF : zN (F (o p')) ≠ o p := fun h => hnR (h ▸ zR_u hw hL' uF)
    have neG : zN (G (o p')) ≠ o p := fun h => hnR (h ▸ zR_u hw hL' uG)
    refine ⟨c', hx', ?_⟩
    rw [out _ hL' hng, ev, agree _ hf nF neF]
    congr 1
    funext mid
    obtain ⟨r, r1, r2, r3⟩ := hx'.2.2.2 _ hg (zCl_g hP hL' hcl)
    rw [← r3]
    refine zSup_d (D := fun j => ¬ zR K F G j (o p) = true ∧ j ≠ o p) (U := zUb K F G false) (fun k e1 e2 hk h => zPv_c hw hk h) hP.2.1 hP.2.2.1 (fun k j hk hj hd hu => ⟨fun h => hd.1 (zTC_tr hj (zR_u hw hk hu) h), fun h => hd.1 (h ▸ zR_u hw hk hu)⟩) (c' - 1) (p' + 1) _ _ (by omega) (zEx_use hP hcl.1 hx') (fun t ht hdt => ?_) r (by omega) (by rw [r3]; exact ⟨nG, neG⟩)
    by_cases et : o t = o p'
    · rw [et, upd_s, upd_s]
    · rw [upd_n et, upd_n et]
      exact (agree _ (hP.2.1 t (by omega)) hdt.1 hdt.2).symm
end PEq
end
section
section PAm
/-! amounts that are carried -/
def zSm (f : Nat → Int32) : Nat → Int32
  | 0 => 0
  | k + 1 => zSm f k + f k
theorem zSm_bn {f : Nat → Int32} {b : Nat} : ∀ c, (∀ i, i < c → ∃ a, a ≤ b ∧ f i = nI a) → ∃ a, a ≤ c * b ∧ zSm f c = nI a := by
  intro c
  induction c with
  | zero => intro _; exact ⟨0, by omega, rfl⟩
  | succ c ih =>
    intro h
    obtain ⟨a, ha, ea⟩ := ih (fun i hi => h i (by omega))
    obtain ⟨d, hd, ed⟩ := h c (by omega)
    exact ⟨a + d, by rw [Nat.succ_mul]; omega, by rw [zSm, ea, ed, nI_add]⟩
theorem a8 {s : zS} {k i : Nat} (h : i < 8) : zAt s k 8 (nI i) = s k i := zAt_n h (by decide)
theorem a5 {s : zS} {k i : Nat} (h : i < 5) : zAt s k 5 (nI i) = s k i := zAt_n h (by decide)
theorem p_total {n c : Nat} (hn : 100 ≤ n) {s : zS} (hc : c ≤ 8) (h : s 13 2 = nI c) : m_X0_total n s = some (zSm (s 14) c, s) := by
  obtain ⟨v, f1, hf1, hI, e1⟩ := for_up (fun f k (v : Int32) => m_X0_total_j4 n f v (nI k) s) (fun k v => v = zSm (s 14) k) c (by
    rintro f k v hk rfl
    refine ⟨_, rfl, ?_⟩
    show m_X0_total_j4 n (f + 1) _ (nI k) s = m_X0_total_j4 n f _ (nI (k + 1)) s
    rw [m_X0_total_j4, h, if_neg (nI_ge hk (by omega)), p_leftAt, zBd_e, a8 (by omega), zLt_e, zLt_e, nI_s, zSm]) c n 0 0 (by omega) (by omega) rfl
  obtain ⟨f1, rfl⟩ : ∃ g, f1 = g + 1 := ⟨f1 - 1, by omega⟩
  unfold m_X0_total
  refine (show _ = _ from e1).trans ?_
  show m_X0_total_j4 n (f1 + 1) v (nI c) s = _
  rw [m_X0_total_j4, h, if_pos (nI_le (Nat.le_refl _) (by omega)), hI]; rfl
theorem q_all {n c : Nat} (hn : 100 ≤ n) {s : zS} (hc : c ≤ 8) (h : s 0 8 = nI c) : m_X8_all n s = some (zSm (s 7) c, s) := by
  obtain ⟨v, f1, hf1, hI, e1⟩ := for_up (fun f k (v : Int32) => m_X8_all_j4 n f v (nI k) s) (fun k v => v = zSm (s 7) k) c (by
    rintro f k v hk rfl
    refine ⟨_, rfl, ?_⟩
    show m_X8_all_j4 n (f + 1) _ (nI k) s = m_X8_all_j4 n f _ (nI (k + 1)) s
    rw [m_X8_all_j4, h, if_neg (nI_ge hk (by omega)), zRd_n (by omega) (by decide), zLt_e, zLt_e, nI_s, zSm]) c n 0 0 (by omega) (by omega) rfl
  obtain ⟨f1, rfl⟩ : ∃ g, f1 = g + 1 := ⟨f1 - 1, by omega⟩
  unfold m_X8_all
  refine (show _ = _ from e1).trans ?_
  show m_X8_all_j4 n (f1 + 1) v (nI c) s = _
  rw [m_X8_all_j4, h, if_pos (nI_le (Nat.le_refl _) (by omega)), hI]; rfl
theorem nI_m1 {p : Nat} : nI (p + 1) + (-1 : Int32) = nI p := by rw [← Int32.sub_eq_add_neg]; exact nI_pred p
/-- an amount laid in its place -/
def zIn (a l : Int32) : Nat → (Nat → Int32) → (Nat → Int32) → (Nat → Int32) × (Nat → Int32)
  | 0, A, L => (upd A 0 a, upd L 0 l)
  | p + 1, A, L => if L p ≤ l then (upd A (p + 1) a, upd L (p + 1) l) else zIn a l p (upd A (p + 1) (A p)) (upd L (p + 1) (L p))
theorem zU_k {s : zS} {k j : Nat} {v : Int32} : zU s k j v k = upd (s k) j v := by unfold zU; rw [if_pos rfl]
theorem p_add {n : Nat} {a l : Int32} : ∀ p f (s : zS), p < 8 → p < f → ∃ s', m_X0_add_j5 n f a l (nI p) s = some (0, s') ∧ s' 14 = (zIn a l p (s 14) (s 15)).1 ∧ s' 15 = (zIn a l p (s 14) (s 15)).2 ∧ s' 13 = upd (s 13) 2 (s 13 2 + 1) ∧ ∀ c, c ≠ 13 → c ≠ 14 → c ≠ 15 → s' c = s c := by
  have put : ∀ p (s : zS), p < 8 → ∃ s', m_X0_add_j37 n a l (nI p) s = some (0, s') ∧ s' 14 = upd (s 14) p a ∧ s' 15 = upd (s 15) p l ∧ s' 13 = upd (s 13) 2 (s 13 2 + 1) ∧ ∀ c, c ≠ 13 → c ≠ 14 → c ≠ 15 → s' c = s c := by
    intro p s hp
    refine ⟨zU (zU (zU s 14 p a) 15 p l) 13 2 (s 13 2 + 1), ?_, ?_, ?_, ?_, fun c h1 h2 h3 => ?_⟩
    · unfold m_X0_add_j37
      rw [p_put hp (by decide), zBd_e, p_put hp (by decide), zBd_e, zLt_e, zU_ne (a := 13) (k := 15) (by decide), zU_ne (a := 13) (k := 14) (by decide)]; rfl
    · rw [zU_ne (by decide), zU_ne (by decide), zU_k]
    · rw [zU_ne (by decide), zU_k, zU_ne (by decide)]
    · rw [zU_k, zU_ne (by decide), zU_ne (by decide)]
    · rw [zU_ne h1, zU_ne h3, zU_ne h2]
  intro p
  induction p with
  | zero =>
    intro f s hp hf
    obtain ⟨f, rfl⟩ : ∃ g, f = g + 1 := ⟨f - 1, by omega⟩
    rw [m_X0_add_j5, if_pos (by decide)]
    exact put 0 s (by omega)
  | succ p ih =>
    intro f s hp hf
    obtain ⟨f, rfl⟩ : ∃ g, f = g + 1 := ⟨f - 1, by omega⟩
    rw [m_X0_add_j5, if_neg (nI_nle (by omega) (by omega)), nI_pred, p_at (by decide), zBd_e, a8 (by omega)]
    unfold zIn
    by_cases h : s 15 p ≤ l
    · rw [if_pos h, if_pos h]
      exact put (p + 1) s hp
    · rw [if_neg h, if_neg h]
      have mv : m_X0_move n (nI p) (nI (p + 1)) s = some (0, zU (zU s 14 (p + 1) (s 14 p)) 15 (p + 1) (s 15 p)) := by
        unfold m_X0_move
        rw [p_at (by decide), zBd_e, a8 (by omega), p_put hp (by decide), zBd_e, p_at (by decide), zBd_e, a8 (by omega), zU_ne (a := 15) (k := 14) (by decide), p_put hp (by decide), zBd_e]; rfl
      rw [mv, zBd_e, zLt_e, nI_m1]
      obtain ⟨s', r1, r2, r3, r4, r5⟩ := ih f (zU (zU s 14 (p + 1) (s 14 p)) 15 (p + 1) (s 15 p)) (by omega) (by omega)
      rw [zU_ne (a := 14) (k := 15) (by decide), zU_k, zU_k, zU_ne (a := 15) (k := 14) (by decide)] at r2 r3
      rw [zU_ne (a := 13) (k := 15) (by decide), zU_ne (a := 13) (k := 14) (by decide)] at r4
      exact ⟨s', r1, r2, r3, r4, fun c h1 h2 h3 => by rw [r5 c h1 h2 h3, zU_ne h3, zU_ne h2]⟩
theorem q_add {n c : Nat} (hn : 100 ≤ n) {a l : Int32} (hc : c < 8) : ∀ p f (s : zS), p ≤ c → p < f → s 0 8 = nI c → ∃ s', m_X8_carry_j79 n f a l (nI p) s = some (zSm (zIn a l p (s 7) (s 8)).1 (c + 1), s') ∧ s' 7 = (zIn a l p (s 7) (s 8)).1 ∧ s' 8 = (zIn a l p (s 7) (s 8)).2 ∧ s' 0 = upd (s 0) 8 (nI (c + 1)) ∧ ∀ c, c ≠ 0 → c ≠ 7 → c ≠ 8 → s' c = s c := by
  have put : ∀ p (s : zS), p ≤ c → s 0 8 = nI c → ∃ s', m_X8_carry_j129 n a l (nI p) s = some (zSm (upd (s 7) p a) (c + 1), s') ∧ s' 7 = upd (s 7) p a ∧ s' 8 = upd (s 8) p l ∧ s' 0 = upd (s 0) 8 (nI (c + 1)) ∧ ∀ c, c ≠ 0 → c ≠ 7 → c ≠ 8 → s' c = s c := by
    intro p s hp h8
    refine ⟨zU (zU (zU s 7 p a) 8 p l) 0 8 (nI (c + 1)), ?_, ?_, ?_, ?_, fun c h1 h2 h3 => ?_⟩
    · unfold m_X8_carry_j129
      rw [zWr_n (by omega) (by decide), zWr_n (by omega) (by decide), zLt_e, zU_ne (a := 0) (k := 8) (by decide), zU_ne (a := 0) (k := 7) (by decide), h8, nI_s, q_all (c := c + 1) hn (by omega) (by rw [zU_eq]), zBd_e, zU_ne (a := 7) (k := 0) (by decide), zU_ne (a := 7) (k := 8) (by decide), zU_k]; rfl
    · rw [zU_ne (by decide), zU_ne (by decide), zU_k]
    · rw [zU_ne (by decide), zU_k, zU_ne (by decide)]
    · rw [zU_k, zU_ne (by decide), zU_ne (by decide)]
    · rw [zU_ne h1, zU_ne h3, zU_ne h2]
  intro p
  induction p with
  | zero =>
    intro f s hp hf h8
    obtain ⟨f, rfl⟩ : ∃ g, f = g + 1 := ⟨f - 1, by omega⟩
    rw [m_X8_carry_j79, if_pos (by decide)]
    exact put 0 s (by omega) h8
  | succ p ih =>
    intro f s hp hf h8
    obtain ⟨f, rfl⟩ : ∃ g, f = g + 1 := ⟨f - 1, by omega⟩
    rw [m_X8_carry_j79, if_neg (nI_nle (by omega) (by omega)), nI_pred, zRd_n (by omega) (by decide)]
    unfold zIn
    by_cases h : s 8 p ≤ l
    · rw [if_pos h, if_pos h]
      exact put (p + 1) s hp h8
    · rw [if_neg h, if_neg h, zRd_n (by omega) (by decide), zWr_n (by omega) (by decide), zRd_n (by omega) (by decide), zWr_n (by omega) (by decide), zLt_e, nI_m1, zU_ne (a := 8) (k := 7) (by decide)]
      obtain ⟨s', r1, r2, r3, r4, r5⟩ := ih f (zU (zU s 7 (p + 1) (s 7 p)) 8 (p + 1) (s 8 p)) (by omega) (by omega) (by rw [zU_ne (by decide), zU_ne (by decide)]; exact h8)
      rw [zU_ne (a := 7) (k := 8) (by decide), zU_k, zU_k, zU_ne (a := 8) (k := 7) (by decide)] at r1 r2 r3
      rw [zU_ne (a := 0) (k := 8) (by decide), zU_ne (a := 0) (k := 7) (by decide)] at r4
      exact ⟨s', r1, r2, r3, r4, fun c h1 h2 h3 => by rw [r5 c h1 h2 h3, zU_ne h3, zU_ne h2]⟩
theorem zIn_bn {a l : Int32} (ha : ∃ x, x ≤ 1000000 ∧ a = nI x) : ∀ p A L, p < 8 → (∀ i, i < 8 → ∃ x, x ≤ 1000000 ∧ A i = nI x) → ∀ i, i < 8 → ∃ x, x ≤ 1000000 ∧ (zIn a l p A L).1 i = nI x := by
  have up : ∀ (A : Nat → Int32) j v, (∃ x, x ≤ 1000000 ∧ v = nI x) → (∀ i, i < 8 → ∃ x, x ≤ 1000000 ∧ A i = nI x) → ∀ i, i < 8 → ∃ x, x ≤ 1000000 ∧ upd A j v i = nI x := by
    intro A j v hv hA i hi
    by_cases q : i = j
    · rw [q, upd_s]; exact hv
    · rw [upd_n q]; exact hA i hi
  intro p
  induction p with
  | zero => intro A L _ hA; exact up A 0 a ha hA
  | succ p ih =>
    intro A L hp hA
    unfold zIn
    split
    · exact up A (p + 1) a ha hA
    · exact ih _ _ (by omega) (up A (p + 1) _ (hA p (by omega)) hA)
/-- amounts spent -/
def zTk (w : Int32) (A : Nat → Int32) : Nat → Int32 × (Nat → Int32)
  | 0 => (w, A)
  | k + 1 => ((zTk w A k).1 - (if (zTk w A k).2 k < (zTk w A k).1 then (zTk w A k).2 k else (zTk w A k).1), upd (zTk w A k).2 k ((zTk w A k).2 k - (if (zTk w A k).2 k < (zTk w A k).1 then (zTk w A k).2 k else (zTk w A k).1)))
theorem p_take {n c : Nat} (hn : 100 ≤ n) {s : zS} (w : Int32) (hc : c ≤ 8) (h : s 13 2 = nI c) : m_X0_take n w s = some (w - (zTk w (s 14) c).1, zSt s 14 (zTk w (s 14) c).2) := by
  obtain ⟨x, f1, hf1, hI, e1⟩ := for_up (fun f k (x : Int32 × (Nat → Int32)) => m_X0_take_j4 n f w x.1 (nI k) (zSt s 14 x.2)) (fun k x => x = zTk w (s 14) k) c (by
    rintro f k x hk rfl
    refine ⟨_, rfl, ?_⟩
    show m_X0_take_j4 n (f + 1) w _ (nI k) _ = m_X0_take_j4 n f w _ (nI (k + 1)) _
    rw [m_X0_take_j4, zSt_n (by decide), h, if_neg (nI_ge hk (by omega)), p_leftAt, zBd_e, a8 (by omega), zSt_s, zLt_e, p_leftAt, zBd_e, a8 (by omega), zSt_s, p_put (by omega) (by decide), zBd_e, zLt_e, zLt_e, nI_s, zSt_u]; rfl) c n 0 (w, s 14) (by omega) (by omega) rfl
  obtain ⟨f1, rfl⟩ : ∃ g, f1 = g + 1 := ⟨f1 - 1, by omega⟩
  unfold m_X0_take
  have e0 : m_X0_take_j4 n n w w 0 s = m_X0_take_j4 n (f1 + 1) w x.1 (nI c) (zSt s 14 x.2) := by
    have := e1
    simp only at this
    rw [zSt_i] at this
    exact this
  rw [e0, m_X0_take_j4, zSt_n (by decide), h, if_pos (nI_le (Nat.le_refl _) (by omega)), hI]; rfl
theorem q_spends {n c : Nat} (hn : 100 ≤ n) {s : zS} (w : Int32) (hc : c ≤ 8) (h : s 0 8 = nI c) : m_X8_spends n w s = some (w - (zTk w (s 7) c).1, zSt s 7 (zTk w (s 7) c).2) := by
  obtain ⟨x, f1, hf1, hI, e1⟩ := for_up (fun f k (x : Int32 × (Nat → Int32)) => m_X8_spends_j4 n f w x.1 (nI k) (zSt s 7 x.2)) (fun k x => x = zTk w (s 7) k) c (by
    rintro f k x hk rfl
    refine ⟨_, rfl, ?_⟩
    show m_X8_spends_j4 n (f + 1) w _ (nI k) _ = m_X8_spends_j4 n f w _ (nI (k + 1)) _
    rw [m_X8_spends_j4, zSt_n (by decide), h, if_neg (nI_ge hk (by omega)), zRd_n (by omega) (by decide), zSt_s]
    unfold m_X8_spends_j32
    by_cases hle : (zTk w (s 7) k).1 ≤ (zTk w (s 7) k).2 k
    · rw [if_pos hle, zRd_n (by omega) (by decide), zSt_s, zWr_n (by omega) (by decide), zLt_e, zLt_e, nI_s, zSt_u, zTk, if_neg (Int32.not_lt.mpr hle)]
    · rw [if_neg hle, zRd_n (by omega) (by decide), zRd_n (by omega) (by decide), zSt_s, zWr_n (by omega) (by decide), zLt_e, zLt_e, nI_s, zSt_u, zTk, if_pos (Int32.not_le.mp hle)]) c n 0 (w, s 7) (by omega) (by omega) rfl
  obtain ⟨f1, rfl⟩ : ∃ g, f1 = g + 1 := ⟨f1 - 1, by omega⟩
  unfold m_X8_spends
  have e0 : m_X8_spends_j4 n n w w 0 s = m_X8_spends_j4 n (f1 + 1) w x.1 (nI c) (zSt s 7 x.2) := by
    have := e1
    simp only at this
    rw [zSt_i] at this
    exact this
  rw [e0, m_X8_spends_j4, zSt_n (by decide), h, if_pos (nI_le (Nat.le_refl _) (by omega)), hI]; rfl
theorem zTk_bn {w : Int32} {A : Nat → Int32} (hw : zBn w) (hA : ∀ i, i < 8 → ∃ x, x ≤ 1000000 ∧ A i = nI x) : ∀ k, k ≤ 8 → zBn (zTk w A k).1 ∧ ∀ i, i < 8 → ∃ x, x ≤ 1000000 ∧ (zTk w A k).2 i = nI x := by
  intro k
  induction k with
  | zero => intro _; exact ⟨hw, hA⟩
  | succ k ih =>
    intro hk
    obtain ⟨⟨a, ha, ea⟩, hb⟩ := ih (by omega)
    obtain ⟨x, hx, ex⟩ := hb k (by omega)
    have hm : (if nI x < nI a then nI x else nI a) = nI (min a x) := n_min (by omega) (by omega)
    refine ⟨⟨a - min a x, by omega, ?_⟩, fun i hi => ?_⟩
    · rw [zTk, ex, ea, hm, n_sub (by omega)]
    · rw [zTk]
      show ∃ x, x ≤ 1000000 ∧ upd _ k _ i = nI x
      by_cases q : i = k
      · rw [q, upd_s, ex, ea, hm, n_sub (by omega)]; exact ⟨x - min a x, by omega, rfl⟩
      · rw [upd_n q]; exact hb i hi
/-- the end of a year: kept, lefts, lasts -/
def zEy (y : Int32) (A L : Nat → Int32) : Nat → Nat × (Nat → Int32) × (Nat → Int32)
  | 0 => (0, A, L)
  | k + 1 => if (zEy y A L k).2.1 k ≤ 0 then zEy y A L k else if (zEy y A L k).2.2 k ≤ y then zEy y A L k else ((zEy y A L k).1 + 1, upd (zEy y A L k).2.1 (zEy y A L k).1 ((zEy y A L k).2.1 k), upd (zEy y A L k).2.2 (zEy y A L k).1 ((zEy y A L k).2.2 k))
theorem zEy_bn {y : Int32} {A L : Nat → Int32} (hA : ∀ i, i < 8 → ∃ x, x ≤ 1000000 ∧ A i = nI x) : ∀ k, k ≤ 8 → (zEy y A L k).1 ≤ k ∧ ∀ i, i < 8 → ∃ x, x ≤ 1000000 ∧ (zEy y A L k).2.1 i = nI x := by
  intro k
  induction k with
  | zero => intro _; exact ⟨Nat.le_refl _, hA⟩
  | succ k ih =>
    intro hk
    obtain ⟨h1, h2⟩ := ih (by omega)
    rw [zEy]
    split
    · exact ⟨by omega, h2⟩
    · split
      · exact ⟨by omega, h2⟩
      · refine ⟨Nat.succ_le_succ h1, fun i hi => ?_⟩
        show ∃ x, x ≤ 1000000 ∧ upd _ _ _ i = nI x
        by_cases q : i = (zEy y A L k).1
        · rw [q, upd_s]; exact h2 k (by omega)
        · rw [upd_n q]; exact h2 i hi
theorem zSt_c {s : zS} {a b : Nat} {f g : Nat → Int32} (h : a ≠ b) : zSt (zSt s a f) b g = zSt (zSt s b g) a f := by
  funext i
  by_cases h1 : i = a
  · subst h1; rw [zSt_n h, zSt_s, zSt_s]
  · by_cases h2 : i = b
    · subst h2; rw [zSt_s, zSt_n h1, zSt_s]
    · rw [zSt_n h2, zSt_n h1, zSt_n h1, zSt_n h2]
theorem p_endYear {n c : Nat} (hn : 100 ≤ n) {s : zS} (hc : c ≤ 8) (h : s 13 2 = nI c) : ∃ s', m_X0_endYear n s = some (0, s') ∧ s' 14 = (zEy (s 13 3) (s 14) (s 15) c).2.1 ∧ s' 15 = (zEy (s 13 3) (s 14) (s 15) c).2.2 ∧ s' 13 = upd (upd (s 13) 2 (nI (zEy (s 13 3) (s 14) (s 15) c).1)) 3 (s 13 3 + 1) ∧ ∀ c, c ≠ 13 → c ≠ 14 → c ≠ 15 → s' c = s c := by
  obtain ⟨x, f1, hf1, ⟨hx, hI⟩, e1⟩ := for_up (fun f k (x : Nat × (Nat → Int32) × (Nat → Int32)) => m_X0_endYear_j4 n f (nI x.1) (nI k) (zSt (zSt s 14 x.2.1) 15 x.2.2)) (fun k x => x.1 ≤ k ∧ x = zEy (s 13 3) (s 14) (s 15) k) c (by
    rintro f k x hk ⟨hx, hI⟩
    have e13 : zSt (zSt s 14 x.2.1) 15 x.2.2 13 = s 13 := by rw [zSt_n (by decide), zSt_n (by decide)]
    have e14 : zSt (zSt s 14 x.2.1) 15 x.2.2 14 = x.2.1 := by rw [zSt_n (by decide), zSt_s]
    have e15 : zSt (zSt s 14 x.2.1) 15 x.2.2 15 = x.2.2 := zSt_s
    by_cases h1 : x.2.1 k ≤ 0
    · refine ⟨x, ⟨by omega, by rw [zEy, ← hI, if_pos h1]⟩, ?_⟩
      show m_X0_endYear_j4 n (f + 1) (nI x.1) (nI k) _ = m_X0_endYear_j4 n f (nI x.1) (nI (k + 1)) _
      rw [m_X0_endYear_j4, e13, h, if_neg (nI_ge hk (by omega)), p_leftAt, zBd_e, a8 (by omega), e14, if_pos h1, zLt_e, nI_s]
    · by_cases h2 : x.2.2 k ≤ s 13 3
      · refine ⟨x, ⟨by omega, by rw [zEy, ← hI, if_neg h1, if_pos h2]⟩, ?_⟩
        show m_X0_endYear_j4 n (f + 1) (nI x.1) (nI k) _ = m_X0_endYear_j4 n f (nI x.1) (nI (k + 1)) _
        rw [m_X0_endYear_j4, e13, h, if_neg (nI_ge hk (by omega)), p_leftAt, zBd_e, a8 (by omega), e14, if_neg h1, p_at (by decide), zBd_e, a8 (by omega), e15, e13, if_pos h2, zLt_e, nI_s]
      · refine ⟨(x.1 + 1, upd x.2.1 x.1 (x.2.1 k), upd x.2.2 x.1 (x.2.2 k)), ⟨Nat.succ_le_succ hx, by rw [zEy, ← hI, if_neg h1, if_neg h2]⟩, ?_⟩
        show m_X0_endYear_j4 n (f + 1) (nI x.1) (nI k) _ = m_X0_endYear_j4 n f (nI (x.1 + 1)) (nI (k + 1)) (zSt (zSt s 14 (upd x.2.1 x.1 (x.2.1 k))) 15 (upd x.2.2 x.1 (x.2.2 k)))
        have mv : m_X0_move n (nI k) (nI x.1) (zSt (zSt s 14 x.2.1) 15 x.2.2) = some (0, zSt (zSt s 14 (upd x.2.1 x.1 (x.2.1 k))) 15 (upd x.2.2 x.1 (x.2.2 k))) := by
          unfold m_X0_move
          rw [p_at (by decide), zBd_e, a8 (by omega), p_put (by omega) (by decide), zBd_e, p_at (by decide), zBd_e, a8 (by omega), p_put (by omega) (by decide), zBd_e, zU_ne (a := 15) (k := 14) (by decide), e14, e15]
          show some ((0 : Int32), _) = some (0, _)
          rw [zSt_c (by decide), zSt_u, zSt_c (by decide), zSt_u]
        rw [m_X0_endYear_j4, e13, h, if_neg (nI_ge hk (by omega)), p_leftAt, zBd_e, a8 (by omega), e14, if_neg h1, p_at (by decide), zBd_e, a8 (by omega), e15, e13, if_neg h2, mv, zBd_e, zLt_e, zLt_e, nI_s, nI_s]) c n 0 (0, s 14, s 15) (by omega) (by omega) ⟨Nat.le_refl _, rfl⟩
  obtain ⟨f1, rfl⟩ : ∃ g, f1 = g + 1 := ⟨f1 - 1, by omega⟩
  have e13 : zSt (zSt s 14 x.2.1) 15 x.2.2 13 = s 13 := by rw [zSt_n (by decide), zSt_n (by decide)]
  refine ⟨zU (zU (zSt (zSt s 14 x.2.1) 15 x.2.2) 13 2 (nI x.1)) 13 3 (s 13 3 + 1), ?_, ?_, ?_, ?_, fun c h1 h2 h3 => ?_⟩
  · unfold m_X0_endYear
    have e0 : m_X0_endYear_j4 n n 0 0 s = m_X0_endYear_j4 n (f1 + 1) (nI x.1) (nI c) (zSt (zSt s 14 x.2.1) 15 x.2.2) := by
      have := e1
      simp only at this
      rw [show zSt (zSt s 14 (s 14)) 15 (s 15) = s from (by rw [zSt_i, zSt_i])] at this
      exact this
    rw [e0, m_X0_endYear_j4, e13, h, if_pos (nI_le (Nat.le_refl _) (by omega)), zLt_e, zLt_e, zU_nj (c := 3) (j := 2) (by decide), e13]; rfl
  · rw [zU_ne (by decide), zU_ne (by decide), zSt_n (by decide), zSt_s, hI]
  · rw [zU_ne (by decide), zU_ne (by decide), zSt_s, hI]
  · rw [zU_k, zU_k, e13, hI]
  · rw [zU_ne h1, zU_ne h1, zSt_n h3, zSt_n h2]
theorem q_endYear {n c : Nat} (hn : 100 ≤ n) {s : zS} (v1 : Int32) (hc : c ≤ 8) (h : s 0 8 = nI c) : ∃ s', m_X8_closeYear_j59 n n v1 0 0 s = some (v1, s') ∧ s' 7 = (zEy (s 0 7) (s 7) (s 8) c).2.1 ∧ s' 8 = (zEy (s 0 7) (s 7) (s 8) c).2.2 ∧ s' 0 = upd (upd (s 0) 8 (nI (zEy (s 0 7) (s 7) (s 8) c).1)) 7 (s 0 7 + 1) ∧ ∀ c, c ≠ 0 → c ≠ 7 → c ≠ 8 → s' c = s c := by
  obtain ⟨x, f1, hf1, ⟨hx, hI⟩, e1⟩ := for_up (fun f k (x : Nat × (Nat → Int32) × (Nat → Int32)) => m_X8_closeYear_j59 n f v1 (nI x.1) (nI k) (zSt (zSt s 7 x.2.1) 8 x.2.2)) (fun k x => x.1 ≤ k ∧ x = zEy (s 0 7) (s 7) (s 8) k) c (by
    rintro f k x hk ⟨hx, hI⟩
    have e0 : zSt (zSt s 7 x.2.1) 8 x.2.2 0 = s 0 := by rw [zSt_n (by decide), zSt_n (by decide)]
    have e7 : zSt (zSt s 7 x.2.1) 8 x.2.2 7 = x.2.1 := by rw [zSt_n (by decide), zSt_s]
    have e8 : zSt (zSt s 7 x.2.1) 8 x.2.2 8 = x.2.2 := zSt_s
    by_cases h1 : x.2.1 k ≤ 0
    · refine ⟨x, ⟨by omega, by rw [zEy, ← hI, if_pos h1]⟩, ?_⟩
      show m_X8_closeYear_j59 n (f + 1) v1 (nI x.1) (nI k) _ = m_X8_closeYear_j59 n f v1 (nI x.1) (nI (k + 1)) _
      rw [m_X8_closeYear_j59, e0, h, if_neg (nI_ge hk (by omega)), zRd_n (by omega) (by decide), e7, if_pos h1, zLt_e, nI_s]
    · by_cases h2 : x.2.2 k ≤ s 0 7
      · refine ⟨x, ⟨by omega, by rw [zEy, ← hI, if_neg h1, if_pos h2]⟩, ?_⟩
        show m_X8_closeYear_j59 n (f + 1) v1 (nI x.1) (nI k) _ = m_X8_closeYear_j59 n f v1 (nI x.1) (nI (k + 1)) _
        rw [m_X8_closeYear_j59, e0, h, if_neg (nI_ge hk (by omega)), zRd_n (by omega) (by decide), e7, if_neg h1, zRd_n (by omega) (by decide), e8, if_pos h2, zLt_e, nI_s]
      · refine ⟨(x.1 + 1, upd x.2.1 x.1 (x.2.1 k), upd x.2.2 x.1 (x.2.2 k)), ⟨Nat.succ_le_succ hx, by rw [zEy, ← hI, if_neg h1, if_neg h2]⟩, ?_⟩
        show m_X8_closeYear_j59 n (f + 1) v1 (nI x.1) (nI k) _ = m_X8_closeYear_j59 n f v1 (nI (x.1 + 1)) (nI (k + 1)) (zSt (zSt s 7 (upd x.2.1 x.1 (x.2.1 k))) 8 (upd x.2.2 x.1 (x.2.2 k)))
        have up1 : zU (zSt (zSt s 7 x.2.1) 8 x.2.2) 7 x.1 (x.2.1 k) = zSt (zSt s 7 (upd x.2.1 x.1 (x.2.1 k))) 8 x.2.2 := by rw [zSt_c (by decide), zSt_u, zSt_c (by decide)]
        rw [m_X8_closeYear_j59, e0, h, if_neg (nI_ge hk (by omega)), zRd_n (by omega) (by decide), e7, if_neg h1, zRd_n (by omega) (by decide), e8, if_neg h2, zRd_n (by omega) (by decide), zWr_n (by omega) (by decide), zRd_n (by omega) (by decide), zWr_n (by omega) (by decide), zLt_e, zLt_e, nI_s, nI_s, up1, zSt_u, zSt_s]) c n 0 (0, s 7, s 8) (by omega) (by omega) ⟨Nat.le_refl _, rfl⟩
  obtain ⟨f1, rfl⟩ : ∃ g, f1 = g + 1 := ⟨f1 - 1, by omega⟩
  have e0 : zSt (zSt s 7 x.2.1) 8 x.2.2 0 = s 0 := by rw [zSt_n (by decide), zSt_n (by decide)]
  refine ⟨zU (zU (zSt (zSt s 7 x.2.1) 8 x.2.2) 0 8 (nI x.1)) 0 7 (s 0 7 + 1), ?_, ?_, ?_, ?_, fun c h1 h2 h3 => ?_⟩
  · have ee : m_X8_closeYear_j59 n n v1 0 0 s = m_X8_closeYear_j59 n (f1 + 1) v1 (nI x.1) (nI c) (zSt (zSt s 7 x.2.1) 8 x.2.2) := by
      have := e1
      simp only at this
      rw [show zSt (zSt s 7 (s 7)) 8 (s 8) = s from (by rw [zSt_i, zSt_i])] at this
      exact this
    rw [ee, m_X8_closeYear_j59, e0, h, if_pos (nI_le (Nat.le_refl _) (by omega)), zLt_e, zLt_e, zU_nj (c := 7) (j := 8) (by decide), e0]; rfl
  · rw [zU_ne (by decide), zU_ne (by decide), zSt_n (by decide), zSt_s, hI]
  · rw [zU_ne (by decide), zU_ne (by decide), zSt_s, hI]
  · rw [zU_k, zU_k, e0, hI]
  · rw [zU_ne h1, zU_ne h1, zSt_n h3, zSt_n h2]
end PAm
end
section
section PBr
/-! brackets -/
theorem perm_fold {α β : Type} (f : β → α → β) (hc : ∀ z x y, f (f z x) y = f (f z y) x) {l1 l2 : List α} (h : l1.Perm l2) : ∀ z, l1.foldl f z = l2.foldl f z := by
  induction h with
  | nil => intro z; rfl
  | cons x _ ih => intro z; exact ih _
  | swap x y l => intro z; show l.foldl f (f (f z y) x) = l.foldl f (f (f z x) y); rw [hc]
  | trans _ _ ih1 ih2 => intro z; rw [ih1, ih2]
def zLs (A B : Nat → Int32) (c : Nat) : List (Nat × Nat) := (List.range c).map (fun i => (zN (A i), zN (B i)))
theorem zLs_s {A B : Nat → Int32} {c : Nat} : zLs A B (c + 1) = zLs A B c ++ [(zN (A c), zN (B c))] := by
  unfold zLs
  rw [List.range_succ, List.map_append]; rfl
theorem zLs_c {A B A' B' : Nat → Int32} {c : Nat} (h : ∀ i, i < c → zN (A i) = zN (A' i) ∧ zN (B i) = zN (B' i)) : zLs A B c = zLs A' B' c := by
  unfold zLs
  refine List.map_congr_left (fun i hi => ?_)
  obtain ⟨a, b⟩ := h i (List.mem_range.mp hi)
  rw [a, b]
/-- the threshold that follows -/
def zNx (l : List (Nat × Nat)) (t : Nat) : Nat := l.foldl (fun a p => if t < p.1 ∧ p.1 < a then p.1 else a) 1000000000
theorem zNx_p {l1 l2 : List (Nat × Nat)} (h : l1.Perm l2) (t : Nat) : zNx l1 t = zNx l2 t := by
  refine perm_fold _ (fun z x y => ?_) h _
  by_cases h1 : t < x.1 <;> by_cases h2 : t < y.1 <;> by_cases h3 : x.1 < z <;> by_cases h4 : y.1 < z <;> by_cases h5 : x.1 < y.1 <;> by_cases h6 : y.1 < x.1 <;> simp [h1, h2, h3, h4, h5, h6] <;> omega
def zTn (x u t r : Nat) : Nat := (min x u - t) * r / 1000
def zTaxL (l k : List (Nat × Nat)) (x : Nat) : Nat := k.foldl (fun s p => s + zTn x (zNx l p.1) p.1 p.2) 0
theorem zTaxL_p {l1 l2 : List (Nat × Nat)} (h : l1.Perm l2) (x : Nat) : zTaxL l1 l1 x = zTaxL l2 l2 x := by
  have e : zTaxL l1 l1 x = zTaxL l2 l1 x := by
    unfold zTaxL
    congr 1
    funext s p
    rw [zNx_p h]
  rw [e]
  exact perm_fold _ (fun z x y => by omega) h 0
theorem zTaxL_s {l : List (Nat × Nat)} {A B : Nat → Int32} {c x : Nat} : zTaxL l (zLs A B (c + 1)) x = zTaxL l (zLs A B c) x + zTn x (zNx l (zN (A c))) (zN (A c)) (zN (B c)) := by
  unfold zTaxL
  rw [zLs_s, List.foldl_append]; rfl
/-- the bounds of brackets -/
def zBb (A B : Nat → Int32) (c : Nat) : Prop := c ≤ 5 ∧ ∀ i, i < c → (∃ a, a ≤ 1000000 ∧ A i = nI a) ∧ ∃ b, b ≤ 1000 ∧ B i = nI b
theorem zBb_n {A B : Nat → Int32} {c i : Nat} (h : zBb A B c) (hi : i < c) : (zN (A i) ≤ 1000000 ∧ A i = nI (zN (A i))) ∧ zN (B i) ≤ 1000 ∧ B i = nI (zN (B i)) := by
  obtain ⟨⟨a, ha, ea⟩, b, hb, eb⟩ := h.2 i hi
  rw [ea, eb, zN_n (by omega), zN_n (by omega)]
  exact ⟨⟨ha, rfl⟩, hb, rfl⟩
theorem zTn_le {x u t r : Nat} (hr : r ≤ 1000) : zTn x u t r ≤ min x u - t := thou_le hr
theorem q_above {n : Nat} (hn : 100 ≤ n) {s : zS} {c k x : Nat} (rec4 : Int32 → Int32 → Int32 → zS → Option (Int32 × zS)) (v2 : Int32) (h : s 0 4 = nI c) (hb : zBb (s 5) (s 6) c) (hk : k < c) (hx : x ≤ 1000000000) : m_X8_taxed_j19 rec4 n n (nI x) v2 (nI k) 1000000000 0 s = m_X8_taxed_j88 rec4 n (nI x) v2 (nI k) (nI (min x (zNx (zLs (s 5) (s 6) c) (zN (s 5 k))))) s := by
  have hc := hb.1
  obtain ⟨⟨k1, k2⟩, _⟩ := zBb_n hb hk
  obtain ⟨v, f1, hf1, ⟨hv, hI⟩, e1⟩ := for_up (fun f j (v : Nat) => m_X8_taxed_j19 rec4 n f (nI x) v2 (nI k) (nI v) (nI j) s) (fun j v => v ≤ 1000000000 ∧ v = zNx (zLs (s 5) (s 6) j) (zN (s 5 k))) c (by
    rintro f j v hj ⟨hv, hI⟩
    obtain ⟨⟨j1, j2⟩, _⟩ := zBb_n hb hj
    have eI : zNx (zLs (s 5) (s 6) (j + 1)) (zN (s 5 k)) = if zN (s 5 k) < zN (s 5 j) ∧ zN (s 5 j) < v then zN (s 5 j) else v := by
      unfold zNx at hI ⊢
      rw [zLs_s, List.foldl_append, ← hI]; rfl
    rw [eI]
    by_cases h1 : zN (s 5 j) ≤ zN (s 5 k)
    · refine ⟨v, ⟨hv, by rw [if_neg (by omega)]⟩, ?_⟩
      show m_X8_taxed_j19 rec4 n (f + 1) (nI x) v2 (nI k) (nI v) (nI j) s = m_X8_taxed_j19 rec4 n f (nI x) v2 (nI k) (nI v) (nI (j + 1)) s
      rw [m_X8_taxed_j19, h, if_neg (nI_ge hj (by omega)), zRd_n (by omega) (by decide), zRd_n (by omega) (by decide), j2, k2, if_pos (nI_le h1 (by omega)), zLt_e, nI_s]
    · by_cases h2 : v ≤ zN (s 5 j)
      · refine ⟨v, ⟨hv, by rw [if_neg (by omega)]⟩, ?_⟩
        show m_X8_taxed_j19 rec4 n (f + 1) (nI x) v2 (nI k) (nI v) (nI j) s = m_X8_taxed_j19 rec4 n f (nI x) v2 (nI k) (nI v) (nI (j + 1)) s
        rw [m_X8_taxed_j19, h, if_neg (nI_ge hj (by omega)), zRd_n (by omega) (by decide), zRd_n (by omega) (by decide), j2, k2, if_neg (nI_ge (by omega) (by omega)), zRd_n (by omega) (by decide), j2, if_pos (nI_le h2 (by omega)), zLt_e, nI_s]
      · refine ⟨zN (s 5 j), ⟨by omega, by rw [if_pos (by omega)]⟩, ?_⟩
        show m_X8_taxed_j19 rec4 n (f + 1) (nI x) v2 (nI k) (nI v) (nI j) s = m_X8_taxed_j19 rec4 n f (nI x) v2 (nI k) (nI (zN (s 5 j))) (nI (j + 1)) s
        rw [m_X8_taxed_j19, h, if_neg (nI_ge hj (by omega)), zRd_n (by omega) (by decide), zRd_n (by omega) (by decide), k2, if_neg (by rw [j2]; exact nI_ge (by omega) (by omega)), zRd_n (by omega) (by decide), if_neg (by rw [j2]; exact nI_ge (by omega) (by omega)), zRd_n (by omega) (by decide), zLt_e, nI_s, ← j2]) c n 0 1000000000 (by omega) (by omega) ⟨Nat.le_refl _, rfl⟩
  obtain ⟨f1, rfl⟩ : ∃ g, f1 = g + 1 := ⟨f1 - 1, by omega⟩
  refine (show _ = _ from e1).trans ?_
  show m_X8_taxed_j19 rec4 n (f1 + 1) (nI x) v2 (nI k) (nI v) (nI c) s = _
  rw [m_X8_taxed_j19, h, if_pos (nI_le (Nat.le_refl _) (by omega)), ← hI]
  by_cases hvx : v ≤ x
  · rw [if_pos (nI_le hvx (by omega)), Nat.min_eq_right hvx]
  · rw [if_neg (nI_ge (by omega) (by omega)), Nat.min_eq_left (by omega)]
theorem q_taxed {n : Nat} (hn : 100 ≤ n) {s : zS} {c x : Nat} (h : s 0 4 = nI c) (hb : zBb (s 5) (s 6) c) (hx : x ≤ 1000000000) : m_X8_taxed n (nI x) s = some (nI (zTaxL (zLs (s 5) (s 6) c) (zLs (s 5) (s 6) c) x), s) := by
  have hc := hb.1
  obtain ⟨v, f1, hf1, hI, e1⟩ := for_up (fun f k (v : Int32) => m_X8_taxed_j4 n f (nI x) v (nI k) s) (fun k v => v = nI (zTaxL (zLs (s 5) (s 6) c) (zLs (s 5) (s 6) k) x)) c (by
    rintro f k v hk rfl
    refine ⟨_, rfl, ?_⟩
    obtain ⟨⟨k1, k2⟩, k3, k4⟩ := zBb_n hb hk
    show m_X8_taxed_j4 n (f + 1) (nI x) _ (nI k) s = m_X8_taxed_j4 n f (nI x) _ (nI (k + 1)) s
    rw [m_X8_taxed_j4, h, if_neg (nI_ge hk (by omega)), q_above hn _ _ h hb hk hx, zTaxL_s]
    generalize zNx (zLs (s 5) (s 6) c) (zN (s 5 k)) = u
    have hm : min x u ≤ 1000000000 := by omega
    have fin : ∀ (w : Nat), w ≤ 1000000000 → m_X8_taxed_j115 (m_X8_taxed_j4 n f) n (nI x) (nI (zTaxL (zLs (s 5) (s 6) c) (zLs (s 5) (s 6) k) x)) (nI k) (Int32.toInt64 (nI w)) s = m_X8_taxed_j4 n f (nI x) (nI (zTaxL (zLs (s 5) (s 6) c) (zLs (s 5) (s 6) k) x + w * zN (s 6 k) / 1000)) (nI (k + 1)) s := by
      intro w hw
      unfold m_X8_taxed_j115
      rw [zRd_n (by omega) (by decide), zLt_e, zLt_e, nI_s, k4]
      have := n_thou hw k3
      unfold zThou at this
      rw [this, nI_add, ← k4]
    unfold m_X8_taxed_j88
    rw [zRd_n (by omega) (by decide), k2]
    unfold zTn
    by_cases hle : min x u ≤ zN (s 5 k)
    · rw [if_pos (nI_le hle (by omega)), show (0 : Int64) = Int32.toInt64 (nI 0) from by decide, fin 0 (by omega), zN_n (by omega), show min x u - zN (s 5 k) = 0 by omega]
    · rw [if_neg (nI_ge (by omega) (by omega)), zRd_n (by omega) (by decide), k2, n_sub (by omega), fin _ (by omega)]; simp only [zN_n (show zN (s 5 k) < 2147483648 by omega)]) c n 0 0 (by omega) (by omega) rfl
  obtain ⟨f1, rfl⟩ : ∃ g, f1 = g + 1 := ⟨f1 - 1, by omega⟩
  unfold m_X8_taxed
  refine (show _ = _ from e1).trans ?_
  show m_X8_taxed_j4 n (f1 + 1) (nI x) v (nI c) s = _
  rw [m_X8_taxed_j4, h, if_pos (nI_le (Nat.le_refl _) (by omega)), hI]; rfl
def zSo2 (A : Nat → Int32) (c : Nat) : Prop := ∀ i j, i < j → j < c → zN (A i) < zN (A j)
theorem zNx_sorted {A B : Nat → Int32} {c p : Nat} (hs : zSo2 A c) (hb : zBb A B c) (hp : p < c) : zNx (zLs A B c) (zN (A p)) = if p + 1 < c then zN (A (p + 1)) else 1000000000 := by
  have key : ∀ j, j ≤ c → zNx (zLs A B j) (zN (A p)) = if p + 1 < j then zN (A (p + 1)) else 1000000000 := by
    intro j
    induction j with
    | zero => intro _; rfl
    | succ j ih =>
      intro hj
      have ih := ih (by omega)
      unfold zNx at ih ⊢
      rw [zLs_s, List.foldl_append, ih]
      show (if zN (A p) < zN (A j) ∧ zN (A j) < (if p + 1 < j then zN (A (p + 1)) else 1000000000) then zN (A j) else (if p + 1 < j then zN (A (p + 1)) else 1000000000)) = _
      have hbj := (zBb_n hb (show j < c by omega)).1.1
      rcases Nat.lt_trichotomy j (p + 1) with h | h | h
      · have : ¬ zN (A p) < zN (A j) := by
          by_cases e : j = p
          · rw [e]; omega
          · have := hs j p (by omega) (by omega); omega
        rw [if_neg (fun q => this q.1), if_neg (by omega), if_neg (by omega)]
      · subst h
        have := hs p (p + 1) (by omega) (by omega)
        rw [if_neg (show ¬ p + 1 < p + 1 by omega), if_pos ⟨this, by omega⟩, if_pos (by omega)]
      · have := hs (p + 1) j h (by omega)
        rw [if_pos (show p + 1 < j by omega), if_neg (fun q => by omega), if_pos (by omega)]
  exact key c (Nat.le_refl _)
theorem p_tax {n : Nat} (hn : 100 ≤ n) {s : zS} {c x : Nat} (h : s 10 2 = nI c) (hb : zBb (s 11) (s 12) c) (hs : zSo2 (s 11) c) (hx : x ≤ 1000000000) : m_X1_tax n (nI x) s = some (nI (zTaxL (zLs (s 11) (s 12) c) (zLs (s 11) (s 12) c) x), s) := by
  have hc := hb.1
  obtain ⟨v, f1, hf1, hI, e1⟩ := for_up (fun f k (v : Int32) => m_X1_tax_j4 n f (nI x) v (nI k) s) (fun k v => v = nI (zTaxL (zLs (s 11) (s 12) c) (zLs (s 11) (s 12) k) x)) c (by
    rintro f k v hk rfl
    refine ⟨_, rfl, ?_⟩
    obtain ⟨⟨k1, k2⟩, k3, k4⟩ := zBb_n hb hk
    show m_X1_tax_j4 n (f + 1) (nI x) _ (nI k) s = m_X1_tax_j4 n f (nI x) _ (nI (k + 1)) s
    have fin : ∀ (w : Nat), w ≤ 1000000000 → m_X1_tax_j40 (m_X1_tax_j4 n f) n (nI x) (nI (zTaxL (zLs (s 11) (s 12) c) (zLs (s 11) (s 12) k) x)) (nI k) (nI w) s = m_X1_tax_j4 n f (nI x) (nI (zTaxL (zLs (s 11) (s 12) c) (zLs (s 11) (s 12) k) x + (w - zN (s 11 k)) * zN (s 12 k) / 1000)) (nI (k + 1)) s := by
      intro w hw
      unfold m_X1_tax_j40
      have hd : (if nI w - s 11 k < (0 : Int32) then (0 : Int32) else nI w - s 11 k) = nI (w - zN (s 11 k)) := by
        rw [k2]
        by_cases hlt : w < zN (s 11 k)
        · rw [if_pos ((n_neg hw (by omega)).mpr hlt), zN_n (by omega), show w - zN (s 11 k) = 0 by omega]; rfl
        · rw [if_neg (fun q => hlt ((n_neg hw (by omega)).mp q)), n_sub (by omega), zN_n (by omega)]
      rw [p_at (by decide), zBd_e, a5 (by omega), zLt_e, hd, p_at (by decide), zBd_e, a5 (by omega)]
      have et : m_X7_thousandths n (nI (w - zN (s 11 k))) (s 12 k) s = some (zThou (nI (w - zN (s 11 k))) (s 12 k), s) := rfl
      rw [et, zBd_e, zLt_e, zLt_e, nI_s, k4, n_thou (by omega) k3, nI_add, ← k4]
    rw [m_X1_tax_j4, h, if_neg (nI_ge hk (by omega)), nI_s, zTaxL_s, zNx_sorted hs hb hk]
    unfold zTn
    by_cases hl : k + 1 < c
    · obtain ⟨⟨l1, l2⟩, _⟩ := zBb_n hb hl
      rw [if_neg (nI_ge hl (by omega)), p_at (by decide), zBd_e, a5 (by omega), l2, n_min (by omega) (by omega), fin _ (by omega), if_pos hl, ← l2]
    · rw [if_pos (nI_le (by omega) (by omega)), fin x hx, if_neg hl, Nat.min_eq_left hx]) c n 0 0 (by omega) (by omega) rfl
  obtain ⟨f1, rfl⟩ : ∃ g, f1 = g + 1 := ⟨f1 - 1, by omega⟩
  unfold m_X1_tax
  refine (show _ = _ from e1).trans ?_
  show m_X1_tax_j4 n (f1 + 1) (nI x) v (nI c) s = _
  rw [m_X1_tax_j4, h, if_pos (nI_le (Nat.le_refl _) (by omega)), hI]; rfl
theorem tax_le {A B : Nat → Int32} {c x : Nat} (hs : zSo2 A c) (hb : zBb A B c) : zTaxL (zLs A B c) (zLs A B c) x ≤ x := by
  have key : ∀ k, k ≤ c → zTaxL (zLs A B c) (zLs A B k) x ≤ if k < c then min x (zN (A k)) else x := by
    intro k
    induction k with
    | zero => intro _; show 0 ≤ _; omega
    | succ k ih =>
      intro hk
      have ih := ih (by omega)
      rw [if_pos (by omega)] at ih
      rw [zTaxL_s, zNx_sorted hs hb (by omega)]
      have hle := zTn_le (x := x) (u := if k + 1 < c then zN (A (k + 1)) else 1000000000) (t := zN (A k)) (zBb_n hb (show k < c by omega)).2.1
      by_cases hl : k + 1 < c
      · rw [if_pos hl] at hle ⊢
        rw [if_pos hl]
        have := hs k (k + 1) (by omega) hl
        omega
      · rw [if_neg hl] at hle ⊢
        rw [if_neg hl]
        omega
  have := key c (Nat.le_refl _)
  rw [if_neg (by omega)] at this
  exact this
end PBr
end
section
section PCr
/-! credits: sums, orders -/
theorem n5 {i : Nat} (h : i < 5) : ¬ (5 : Int32) ≤ nI i := nI_ge (b := 5) h (by decide)
theorem n5e : (5 : Int32) ≤ nI 5 := nI_le (a := 5) (Nat.le_refl _) (by decide)
theorem n120 {i : Nat} (h : i < 120) : ¬ (120 : Int32) ≤ nI i := nI_ge (b := 120) h (by decide)
def zMn (a b : Int32) : Int32 := if a < b then a else b
def zCrL (C : Nat → Int32) (o : Nat → Nat) (t : Int32) : Nat → Int32
  | 0 => t
  | k + 1 => zCrL C o t k - zMn (C (o k)) (zCrL C o t k)
def zCrS (C W : Nat → Int32) (o : Nat → Nat) (t : Int32) : Nat → Int32
  | 0 => 0
  | k + 1 => zCrS C W o t k + (zMn (C (o k)) (zCrL C o t k) + zThou (C (o k) - zMn (C (o k)) (zCrL C o t k)) (W (o k)))
theorem zCr_c {C W : Nat → Int32} {o o' : Nat → Nat} {t : Int32} {c : Nat} (h : ∀ k, k < c → o k = o' k) : ∀ k, k ≤ c → zCrL C o t k = zCrL C o' t k ∧ zCrS C W o t k = zCrS C W o' t k := by
  intro k
  induction k with
  | zero => intro _; exact ⟨rfl, rfl⟩
  | succ k ih =>
    intro hk
    obtain ⟨a, b⟩ := ih (by omega)
    rw [zCrL, zCrL, zCrS, zCrS, a, b, h k (by omega)]
    exact ⟨rfl, rfl⟩
theorem p_sum {n c : Nat} (hn : 100 ≤ n) {s : zS} {o : Nat → Nat} (t : Int32) (hc : c ≤ 5) (h : s 16 4 = nI c) (ho : ∀ k, k < c → o k < 5 ∧ s 19 k = nI (o k)) : m_X2_sumInOrder n t s = some (zCrS (s 17) (s 18) o t c, s) := by
  obtain ⟨⟨v, w⟩, f1, hf1, hI, e1⟩ := for_up (fun f k (q : Int32 × Int32) => m_X2_sumInOrder_j7 n f q.1 q.2 (nI k) s) (fun k q => q = (zCrL (s 17) o t k, zCrS (s 17) (s 18) o t k)) c (by
    rintro f k q hk rfl
    refine ⟨_, rfl, ?_⟩
    obtain ⟨o1, o2⟩ := ho k hk
    show m_X2_sumInOrder_j7 n (f + 1) (zCrL (s 17) o t k) (zCrS (s 17) (s 18) o t k) (nI k) s = m_X2_sumInOrder_j7 n f (zCrL (s 17) o t (k + 1)) (zCrS (s 17) (s 18) o t (k + 1)) (nI (k + 1)) s
    have et : ∀ a b, m_X7_thousandths n a b s = some (zThou a b, s) := fun a b => rfl
    rw [m_X2_sumInOrder_j7, h, if_neg (nI_ge hk (by omega)), p_at (by decide), zBd_e, a5 (by omega), o2, p_at (by decide), zBd_e, a5 o1, zLt_e, zLt_e, p_at (by decide), zBd_e, a5 o1, p_at (by decide), zBd_e, a5 o1, et, zBd_e, zLt_e, zLt_e, nI_s]; rfl) c n 0 (t, 0) (by omega) (by omega) rfl
  obtain ⟨f1, rfl⟩ : ∃ g, f1 = g + 1 := ⟨f1 - 1, by omega⟩
  unfold m_X2_sumInOrder
  refine (show _ = _ from e1).trans ?_
  show m_X2_sumInOrder_j7 n (f1 + 1) v w (nI c) s = _
  rw [m_X2_sumInOrder_j7, h, if_pos (nI_le (Nat.le_refl _) (by omega)), (Prod.mk.inj hI).2]; rfl
theorem q_comes {n c : Nat} (hn : 100 ≤ n) {s : zS} {o : Nat → Nat} (t : Int32) (hc : c ≤ 5) (h : s 0 11 = nI c) (ho : ∀ k, k < c → o k < 5 ∧ s 17 k = nI (o k)) : m_X8_comes n t s = some (zCrS (s 9) (s 10) o t c, s) := by
  obtain ⟨⟨v, w⟩, f1, hf1, hI, e1⟩ := for_up (fun f k (q : Int32 × Int32) => m_X8_comes_j7 n f q.1 q.2 (nI k) s) (fun k q => q = (zCrL (s 9) o t k, zCrS (s 9) (s 10) o t k)) c (by
    rintro f k q hk rfl
    refine ⟨_, rfl, ?_⟩
    obtain ⟨o1, o2⟩ := ho k hk
    show m_X8_comes_j7 n (f + 1) (zCrL (s 9) o t k) (zCrS (s 9) (s 10) o t k) (nI k) s = m_X8_comes_j7 n f (zCrL (s 9) o t (k + 1)) (zCrS (s 9) (s 10) o t (k + 1)) (nI (k + 1)) s
    have hm : ∀ a : Int32, a = zMn (s 9 (o k)) (zCrL (s 9) o t k) → m_X8_comes_j42 (m_X8_comes_j7 n f) n (zCrL (s 9) o t k) (zCrS (s 9) (s 10) o t k) (nI k) (s 9 (o k)) a s = m_X8_comes_j7 n f (zCrL (s 9) o t (k + 1)) (zCrS (s 9) (s 10) o t (k + 1)) (nI (k + 1)) s := by
      rintro a rfl
      unfold m_X8_comes_j42
      rw [zLt_e, zRd_n (by omega) (by decide), o2, zRd_n o1 (by decide), zLt_e, zLt_e, nI_s]; rfl
    rw [m_X8_comes_j7, h, if_neg (nI_ge hk (by omega)), zRd_n (by omega) (by decide), o2, zRd_n o1 (by decide)]
    by_cases hle : zCrL (s 9) o t k ≤ s 9 (o k)
    · rw [if_pos hle]; exact hm _ (by unfold zMn; rw [if_neg (Int32.not_lt.mpr hle)])
    · rw [if_neg hle]; exact hm _ (by unfold zMn; rw [if_pos (Int32.not_le.mp hle)])) c n 0 (t, 0) (by omega) (by omega) rfl
  obtain ⟨f1, rfl⟩ : ∃ g, f1 = g + 1 := ⟨f1 - 1, by omega⟩
  unfold m_X8_comes
  refine (show _ = _ from e1).trans ?_
  show m_X8_comes_j7 n (f1 + 1) v w (nI c) s = _
  rw [m_X8_comes_j7, h, if_pos (nI_le (Nat.le_refl _) (by omega)), (Prod.mk.inj hI).2]; rfl
/-- two places changed -/
def oSw (o : Nat → Nat) (a b : Nat) : Nat → Nat := fun k => if k = b then o a else if k = a then o b else o k
def oOk (f : Nat → Int32) (o : Nat → Nat) : Prop := ∀ k, k < 5 → o k < 5 ∧ f k = nI (o k)
theorem zSt_z {s : zS} {k : Nat} {f g : Nat → Int32} : zSt (zSt s k f) k g = zSt s k g := by
  funext i
  unfold zSt
  split <;> rfl
theorem p_swap {n a b : Nat} {s : zS} (ha : a < 5) (hb : b < 5) : m_X2_swap n (nI a) (nI b) s = some (0, zSt s 19 (upd (upd (s 19) a (s 19 b)) b (s 19 a))) := by
  have e : zU (zU (zSt s 19 (s 19)) 19 a (s 19 b)) 19 b (s 19 a) = zSt s 19 (upd (upd (s 19) a (s 19 b)) b (s 19 a)) := by rw [zSt_u, zSt_u]
  rw [zSt_i] at e
  unfold m_X2_swap
  rw [p_at (by decide), zBd_e, a5 ha, p_at (by decide), zBd_e, a5 hb, p_put ha (by decide), zBd_e, p_put hb (by decide), zBd_e, e]; rfl
theorem oSw_ok {f : Nat → Int32} {o : Nat → Nat} {a b : Nat} (h : oOk f o) (ha : a < 5) (hb : b < 5) : oOk (upd (upd f a (f b)) b (f a)) (oSw o a b) := by
  intro k hk
  unfold oSw
  by_cases e1 : k = b
  · rw [if_pos e1, e1, upd_s]; exact h a ha
  · rw [if_neg e1, upd_n e1]
    by_cases e2 : k = a
    · rw [if_pos e2, e2, upd_s]; exact h b hb
    · rw [if_neg e2, upd_n e2]; exact h k hk
def trn (o : Nat → Nat) : Nat → Option Nat
  | 0 => none
  | t + 1 => if o (t + 1) < o t then trn o t else some t
theorem trn_lt {o : Nat → Nat} {u : Nat} : ∀ t, trn o t = some u → u < t := by
  intro t
  induction t with
  | zero => intro h; cases h
  | succ t ih =>
    intro h
    unfold trn at h
    split at h
    · have := ih h; omega
    · cases h; omega
theorem p_turn {n c : Nat} {s : zS} {o : Nat → Nat} (ho : oOk (s 19) o) (h : s 16 4 = nI c) : ∀ t f, t < 4 → t + 2 ≤ f → m_X2_toNextOrder_j7 n f (nI t) s = (trn o (t + 1)).elim (some (0, s)) (fun u => m_X2_toNextOrder_j51 n n (nI u) (nI c - 1) s) := by
  have step : ∀ t f, t < 4 → m_X2_toNextOrder_j7 n (f + 1) (nI t) s = if o (t + 1) < o t then m_X2_toNextOrder_j7 n f (nI t + (-1 : Int32)) s else m_X2_toNextOrder_j51 n n (nI t) (nI c - 1) s := by
    intro t f ht
    obtain ⟨a1, a2⟩ := ho t (by omega)
    obtain ⟨b1, b2⟩ := ho (t + 1) (by omega)
    rw [m_X2_toNextOrder_j7, if_neg (nI_pos (by omega)), p_at (by decide), zBd_e, a5 (by omega), p_at (by decide), zBd_e, nI_s, a5 (by omega), a2, b2]
    by_cases q : o (t + 1) < o t
    · rw [if_neg (nI_ge q (by omega)), if_pos q, zLt_e]
    · rw [if_pos (nI_le (by omega) (by omega)), if_neg q]
      unfold m_X2_toNextOrder_j38
      rw [if_pos (nI_pos' (by omega)), zLt_e, h]
  intro t
  induction t with
  | zero =>
    intro f ht hf
    obtain ⟨f, rfl⟩ : ∃ g, f = g + 2 := ⟨f - 2, by omega⟩
    rw [step 0 (f + 1) ht]
    show _ = Option.elim (if o (0 + 1) < o 0 then trn o 0 else some 0) _ _
    by_cases q : o (0 + 1) < o 0
    · rw [if_pos q, if_pos q, show nI 0 + (-1 : Int32) = -1 from by decide, m_X2_toNextOrder_j7, if_pos (by decide)]
      unfold m_X2_toNextOrder_j38
      rw [if_neg (by decide)]; rfl
    · rw [if_neg q, if_neg q]; rfl
  | succ t ih =>
    intro f ht hf
    obtain ⟨f, rfl⟩ : ∃ g, f = g + 1 := ⟨f - 1, by omega⟩
    rw [step (t + 1) f ht]
    show _ = Option.elim (if o (t + 1 + 1) < o (t + 1) then trn o (t + 1) else some (t + 1)) _ _
    by_cases q : o (t + 1 + 1) < o (t + 1)
    · rw [if_pos q, if_pos q, nI_m1, ih f (by omega) (by omega)]
    · rw [if_neg q, if_neg q]; rfl
def prt (o : Nat → Nat) (u : Nat) : Nat → Nat
  | 0 => 0
  | p + 1 => if p + 1 ≤ u then p + 1 else if o u ≤ o (p + 1) then p + 1 else prt o u p
theorem prt_le {o : Nat → Nat} {u : Nat} : ∀ p, prt o u p ≤ p := by
  intro p
  induction p with
  | zero => exact Nat.le_refl _
  | succ p ih =>
    unfold prt
    split
    · exact Nat.le_refl _
    · split
      · exact Nat.le_refl _
      · omega
theorem p_part {n u : Nat} {s : zS} {o : Nat → Nat} (ho : oOk (s 19) o) (hu : u < 5) : ∀ p f, p < 5 → p < f → m_X2_toNextOrder_j51 n f (nI u) (nI p) s = m_X2_toNextOrder_j81 n (nI u) (nI (prt o u p)) s := by
  obtain ⟨b1, b2⟩ := ho u hu
  intro p
  induction p with
  | zero =>
    intro f hp hf
    obtain ⟨f, rfl⟩ : ∃ g, f = g + 1 := ⟨f - 1, by omega⟩
    rw [m_X2_toNextOrder_j51, if_pos (nI_le (by omega) (by omega))]; rfl
  | succ p ih =>
    intro f hp hf
    obtain ⟨f, rfl⟩ : ∃ g, f = g + 1 := ⟨f - 1, by omega⟩
    obtain ⟨a1, a2⟩ := ho (p + 1) hp
    rw [m_X2_toNextOrder_j51]
    unfold prt
    by_cases q : p + 1 ≤ u
    · rw [if_pos (nI_le q (by omega)), if_pos q]
    · rw [if_neg (nI_ge (by omega) (by omega)), if_neg q, p_at (by decide), zBd_e, a5 hp, p_at (by decide), zBd_e, a5 hu, a2, b2]
      by_cases q2 : o u ≤ o (p + 1)
      · rw [if_pos (nI_le q2 (by omega)), if_pos q2]
      · rw [if_neg (nI_ge (by omega) (by omega)), if_neg q2, zLt_e, nI_m1, ih f (by omega) (by omega)]
def rvs : Nat → (Nat → Nat) → Nat → Nat → (Nat → Nat)
  | 0, o, _, _ => o
  | f + 1, o, lo, hi => if hi ≤ lo then o else rvs f (oSw o lo hi) (lo + 1) (hi - 1)
theorem p_rev {n : Nat} {s : zS} : ∀ d f lo hi (g : Nat → Int32) (o : Nat → Nat), hi ≤ lo + d → lo ≤ 5 → hi < 5 → d < f → oOk g o → ∃ g', m_X2_toNextOrder_j99 n f (nI lo) (nI hi) (zSt s 19 g) = some (1, zSt s 19 g') ∧ oOk g' (rvs d o lo hi) := by
  intro d
  induction d with
  | zero =>
    intro f lo hi g o h1 h2 h3 hf ho
    obtain ⟨f, rfl⟩ : ∃ g, f = g + 1 := ⟨f - 1, by omega⟩
    refine ⟨g, ?_, ho⟩
    rw [m_X2_toNextOrder_j99, if_pos (nI_le (by omega) (by omega))]; rfl
  | succ d ih =>
    intro f lo hi g o h1 h2 h3 hf ho
    obtain ⟨f, rfl⟩ : ∃ g, f = g + 1 := ⟨f - 1, by omega⟩
    rw [m_X2_toNextOrder_j99]
    unfold rvs
    by_cases q : hi ≤ lo
    · rw [if_pos (nI_le q (by omega)), if_pos q]
      exact ⟨g, rfl, ho⟩
    · obtain ⟨hi, rfl⟩ : ∃ j, hi = j + 1 := ⟨hi - 1, by omega⟩
      rw [if_neg (nI_ge (by omega) (by omega)), if_neg q, p_swap (by omega) h3, zBd_e, zLt_e, zLt_e, nI_s, nI_m1, zSt_z, zSt_s]
      exact ih f (lo + 1) hi _ _ (by omega) (by omega) (by omega) (by omega) (oSw_ok ho (by omega) h3)
def nxt (c : Nat) (o : Nat → Nat) : Option (Nat → Nat) := (trn o (c - 1)).map (fun u => rvs 5 (oSw o u (prt o u (c - 1))) (u + 1) (c - 1))
theorem p_next {n c : Nat} (hn : 100 ≤ n) (hc : c ≤ 5) {s : zS} {o : Nat → Nat} (h : s 16 4 = nI c) (ho : oOk (s 19) o) : (nxt c o = none ∧ m_X2_toNextOrder n s = some (0, s)) ∨ ∃ o' g, nxt c o = some o' ∧ m_X2_toNextOrder n s = some (1, zSt s 19 g) ∧ oOk g o' := by
  have small : ∀ v : Int32, v < 0 → m_X2_toNextOrder_j7 n n v s = some (0, s) := by
    intro v hv
    obtain ⟨f, rfl⟩ : ∃ g, n = g + 1 := ⟨n - 1, by omega⟩
    rw [m_X2_toNextOrder_j7, if_pos hv]
    unfold m_X2_toNextOrder_j38
    rw [if_neg (Int32.not_le.mpr hv)]; rfl
  unfold m_X2_toNextOrder
  rw [zLt_e, h]
  match c, hc, h with
  | 0, _, _ => exact Or.inl ⟨rfl, small _ (by decide)⟩
  | 1, _, _ => exact Or.inl ⟨rfl, small _ (by decide)⟩
  | t + 2, hc, h =>
    rw [show nI (t + 2) - (2 : Int32) = nI t from n_sub (b := 2) (by omega), p_turn ho h t n (by omega) (by omega)]
    unfold nxt
    show (Option.map _ (trn o (t + 1)) = none ∧ _) ∨ ∃ o' g, Option.map _ (trn o (t + 1)) = some o' ∧ _
    cases hu : trn o (t + 1) with
    | none => exact Or.inl ⟨rfl, rfl⟩
    | some u =>
      have hlt := trn_lt _ hu
      have hpl := prt_le (o := o) (u := u) (t + 1)
      refine Or.inr ?_
      show ∃ o' g, some _ = some o' ∧ m_X2_toNextOrder_j51 n n (nI u) (nI (t + 2) - 1) s = _ ∧ _
      rw [nI_pred, p_part ho (by omega) (t + 1) n (by omega) (by omega)]
      unfold m_X2_toNextOrder_j81
      rw [p_swap (by omega) (by omega), zBd_e, zLt_e, zLt_e, nI_s, zSt_n (by decide), h, nI_pred]
      obtain ⟨g', r1, r2⟩ := p_rev (n := n) (s := s) 5 n (u + 1) (t + 1) _ _ (by omega) (by omega) (by omega) (by omega) (oSw_ok (b := prt o u (t + 1)) ho (show u < 5 by omega) (by omega))
      exact ⟨_, g', rfl, r1, r2⟩
def oL (l : List Nat) : Nat → Nat := fun k => l.getD k 0
def oT (o : Nat → Nat) : List Nat := [o 0, o 1, o 2, o 3, o 4]
theorem oLT {o : Nat → Nat} : ∀ k, k < 5 → oL (oT o) k = o k
  | 0, _ => rfl
  | 1, _ => rfl
  | 2, _ => rfl
  | 3, _ => rfl
  | 4, _ => rfl
  | k + 5, h => absurd h (by omega)
/-- one order tried -/
def zBst (S : (Nat → Nat) → Int32) (c : Nat) (b : Int32 × (Nat → Int32)) (o : Nat → Nat) : Int32 × (Nat → Int32) := if S o ≤ b.1 then b else (S o, fun k => if k < c then nI (o k) else b.2 k)
theorem zBst_c {S : (Nat → Nat) → Int32} {c : Nat} {b : Int32 × (Nat → Int32)} {o o' : Nat → Nat} (hS : S o = S o') (h : ∀ k, k < c → o k = o' k) : zBst S c b o = zBst S c b o' := by
  have e : (fun k => if k < c then nI (o k) else b.2 k) = fun k => if k < c then nI (o' k) else b.2 k := by
    funext k
    by_cases q : k < c
    · rw [if_pos q, if_pos q, h k q]
    · rw [if_neg q, if_neg q]
  unfold zBst
  rw [hS, e]
/-- a list of orders, each the next one of that before it, the last one with none -/
def chk (c : Nat) : List (List Nat) → Bool
  | [] => false
  | [l] => (nxt c (oL l)).isNone
  | l :: l' :: r => (match nxt c (oL l) with
    | none => false
    | some o => decide (oT o = l')) && chk c (l' :: r)
theorem p_keep {n c : Nat} (hn : 100 ≤ n) (hc : c ≤ 5) {s : zS} {o : Nat → Nat} (h : s 16 4 = nI c) (ho : oOk (s 19) o) : m_X2_keepOrder n s = some (0, zSt s 20 (fun k => if k < c then nI (o k) else s 20 k)) := by
  obtain ⟨g, f1, hf1, hI, e1⟩ := for_up (fun f k (g : Nat → Int32) => m_X2_keepOrder_j2 n f (nI k) (zSt s 20 g)) (fun k g => g = fun j => if j < k then nI (o j) else s 20 j) c (by
    rintro f k g hk rfl
    refine ⟨_, rfl, ?_⟩
    show m_X2_keepOrder_j2 n (f + 1) (nI k) (zSt s 20 _) = m_X2_keepOrder_j2 n f (nI (k + 1)) (zSt s 20 _)
    rw [m_X2_keepOrder_j2, zSt_n (c := 16) (by decide), h, if_neg (nI_ge hk (by omega)), p_at (by decide), zBd_e, a5 (by omega), p_put (by omega) (by decide), zBd_e, zLt_e, nI_s, zSt_n (c := 19) (by decide), (ho k (by omega)).2, zSt_u]
    congr 2
    funext j
    by_cases q : j = k
    · rw [q, upd_s, if_pos (by omega)]
    · rw [upd_n q]
      by_cases q2 : j < k
      · rw [if_pos q2, if_pos (by omega)]
      · rw [if_neg q2, if_neg (by omega)]) c n 0 (s 20) (by omega) (by omega) (by funext j; rw [if_neg (by omega)])
  obtain ⟨f1, rfl⟩ : ∃ g, f1 = g + 1 := ⟨f1 - 1, by omega⟩
  unfold m_X2_keepOrder
  have e1' : m_X2_keepOrder_j2 n n 0 s = m_X2_keepOrder_j2 n (f1 + 1) (nI c) (zSt s 20 g) := by
    have := e1
    rw [zSt_i] at this
    exact this
  rw [e1', m_X2_keepOrder_j2, zSt_n (c := 16) (by decide), h, if_pos (nI_le (Nat.le_refl _) (by omega)), hI]; rfl
theorem p_scan {n c : Nat} (hn : 100 ≤ n) (hc : c ≤ 5) {s : zS} (t : Int32) (h : s 16 4 = nI c) : ∀ (L : List (List Nat)) (i f : Nat) (g B : Nat → Int32) (b : Int32), chk c L = true → L.length + i ≤ 120 → 122 ≤ f + i → (∀ l r, L = l :: r → oOk g (oL l)) → ∃ g', m_X2_findBest_j29 n f t b 1 (nI i) (zSt (zSt s 19 g) 20 B) = some ((L.foldl (fun b l => zBst (fun o => zCrS (s 17) (s 18) o t c) c b (oL l)) (b, B)).1, zSt (zSt s 19 g') 20 (L.foldl (fun b l => zBst (fun o => zCrS (s 17) (s 18) o t c) c b (oL l)) (b, B)).2) := by
  intro L
  induction L with
  | nil => intro i f g B b hch; cases hch
  | cons l r ih =>
    intro i f g B b hch hl hf hg
    have ho := hg l r rfl
    obtain ⟨f, rfl⟩ : ∃ g, f = g + 1 := ⟨f - 1, by omega⟩
    have hl' : r.length + 1 + i ≤ 120 := hl
    -- the order's sum, and what is kept of it
    have main : ∃ B', m_X2_findBest_j29 n (f + 1) t b 1 (nI i) (zSt (zSt s 19 g) 20 B) = (zBd (m_X2_toNextOrder n (zSt (zSt s 19 g) 20 B')) fun x6 s7 => m_X2_findBest_j29 n f t (zBst (fun o => zCrS (s 17) (s 18) o t c) c (b, B) (oL l)).1 x6 (nI (i + 1)) s7) ∧ B' = (zBst (fun o => zCrS (s 17) (s 18) o t c) c (b, B) (oL l)).2 := by
      have e19 : (zSt (zSt s 19 g) 20 B) 19 = g := by rw [zSt_n (by decide), zSt_s]
      have e16 : (zSt (zSt s 19 g) 20 B) 16 4 = nI c := by rw [zSt_n (by decide), zSt_n (by decide)]; exact h
      have es := p_sum (s := zSt (zSt s 19 g) 20 B) hn t hc e16 (o := oL l) (fun k hk => by rw [e19]; exact ho k (by omega))
      rw [zSt_n (c := 17) (by decide), zSt_n (c := 17) (by decide), zSt_n (c := 18) (by decide), zSt_n (c := 18) (by decide)] at es
      rw [m_X2_findBest_j29, if_neg (n120 (show i < 120 by omega)), if_neg (by decide), es, zBd_e]
      have bd : zBst (fun o => zCrS (s 17) (s 18) o t c) c (b, B) (oL l) = if zCrS (s 17) (s 18) (oL l) t c ≤ b then (b, B) else (zCrS (s 17) (s 18) (oL l) t c, fun k => if k < c then nI (oL l k) else B k) := rfl
      rw [bd]
      by_cases q : zCrS (s 17) (s 18) (oL l) t c ≤ b
      · refine ⟨B, ?_, ?_⟩
        · rw [if_pos q, if_pos q]
          simp only [zLt_e, nI_s]
        · rw [if_pos q]
      · refine ⟨_, ?_, rfl⟩
        rw [if_neg q, if_neg q, p_keep (o := oL l) hn hc e16 (by rw [e19]; exact ho), zBd_e]
        simp only [zLt_e, nI_s, zSt_s, zSt_z]
    obtain ⟨B', e1, hB'⟩ := main
    subst hB'
    rw [e1, List.foldl_cons]
    generalize zBst (fun o => zCrS (s 17) (s 18) o t c) c (b, B) (oL l) = R
    obtain ⟨R1, B'⟩ := R
    simp only
    have hN := p_next (s := zSt (zSt s 19 g) 20 B') (o := oL l) hn hc (by rw [zSt_n (by decide), zSt_n (by decide)]; exact h) (by rw [zSt_n (by decide), zSt_s]; exact ho)
    cases r with
    | nil =>
      rcases hN with ⟨k1, k2⟩ | ⟨o', g', k1, k2, k3⟩
      · refine ⟨g, ?_⟩
        rw [k2, zBd_e]
        obtain ⟨f, rfl⟩ : ∃ g, f = g + 1 := ⟨f - 1, by omega⟩
        rw [m_X2_findBest_j29]
        by_cases q : (120 : Int32) ≤ nI (i + 1)
        · rw [if_pos q]; rfl
        · rw [if_neg q, if_pos rfl]; rfl
      · exfalso
        unfold chk at hch
        rw [k1] at hch
        cases hch
    | cons l' r =>
      have hch' : ((match nxt c (oL l) with
        | none => false
        | some o => decide (oT o = l')) && chk c (l' :: r)) = true := hch
      obtain ⟨h1, h2⟩ := Bool.and_eq_true_iff.mp hch'
      rcases hN with ⟨k1, k2⟩ | ⟨o', g', k1, k2, k3⟩
      · rw [k1] at h1; cases h1
      · rw [k1] at h1
        have h3 : oT o' = l' := of_decide_eq_true h1
        have hlen : (l' :: r).length = r.length + 1 := rfl
        have hlen' : (l :: l' :: r).length = r.length + 1 + 1 := rfl
        obtain ⟨g2, ih1⟩ := ih (i + 1) f g' B' R1 h2 (by omega) (by omega) (fun l2 r2 e => by
          cases e
          intro k hk
          rw [← h3, oLT k hk]
          exact k3 k hk)
        refine ⟨g2, ?_⟩
        rw [k2, zBd_e, show zSt (zSt (zSt s 19 g) 20 B') 19 g' = zSt (zSt s 19 g') 20 B' from by rw [zSt_c (a := 20) (b := 19) (by decide), zSt_z]]
        exact ih1
def prm : Nat → List (List Nat)
  | 0 => [[0, 1, 2, 3, 4]]
  | 1 => [[0, 1, 2, 3, 4]]
  | 2 => [[0, 1, 2, 3, 4], [1, 0, 2, 3, 4]]
  | 3 => [[0, 1, 2, 3, 4], [0, 2, 1, 3, 4], [1, 0, 2, 3, 4], [1, 2, 0, 3, 4], [2, 0, 1, 3, 4], [2, 1, 0, 3, 4]]
  | 4 => [[0, 1, 2, 3, 4], [0, 1, 3, 2, 4], [0, 2, 1, 3, 4], [0, 2, 3, 1, 4], [0, 3, 1, 2, 4], [0, 3, 2, 1, 4], [1, 0, 2, 3, 4], [1, 0, 3, 2, 4], [1, 2, 0, 3, 4], [1, 2, 3, 0, 4], [1, 3, 0, 2, 4], [1, 3, 2, 0, 4], [2, 0, 1, 3, 4], [2, 0, 3, 1, 4], [2, 1, 0, 3, 4], [2, 1, 3, 0, 4], [2, 3, 0, 1, 4], [2, 3, 1, 0, 4], [3, 0, 1, 2, 4], [3, 0, 2, 1, 4], [3, 1, 0, 2, 4], [3, 1, 2, 0, 4], [3, 2, 0, 1, 4], [3, 2, 1, 0, 4]]
  | _ => [[0, 1, 2, 3, 4], [0, 1, 2, 4, 3], [0, 1, 3, 2, 4], [0, 1, 3, 4, 2], [0, 1, 4, 2, 3], [0, 1, 4, 3, 2], [0, 2, 1, 3, 4], [0, 2, 1, 4, 3], [0, 2, 3, 1, 4], [0, 2, 3, 4, 1], [0, 2, 4, 1, 3], [0, 2, 4, 3, 1], [0, 3, 1, 2, 4], [0, 3, 1, 4, 2], [0, 3, 2, 1, 4], [0, 3, 2, 4, 1], [0, 3, 4, 1, 2], [0, 3, 4, 2, 1], [0, 4, 1, 2, 3], [0, 4, 1, 3, 2], [0, 4, 2, 1, 3], [0, 4, 2, 3, 1], [0, 4, 3, 1, 2], [0, 4, 3, 2, 1], [1, 0, 2, 3, 4], [1, 0, 2, 4, 3], [1, 0, 3, 2, 4], [1, 0, 3, 4, 2], [1, 0, 4, 2, 3], [1, 0, 4, 3, 2], [1, 2, 0, 3, 4], [1, 2, 0, 4, 3], [1, 2, 3, 0, 4], [1, 2, 3, 4, 0], [1, 2, 4, 0, 3], [1, 2, 4, 3, 0], [1, 3, 0, 2, 4], [1, 3, 0, 4, 2], [1, 3, 2, 0, 4], [1, 3, 2, 4, 0], [1, 3, 4, 0, 2], [1, 3, 4, 2, 0], [1, 4, 0, 2, 3], [1, 4, 0, 3, 2], [1, 4, 2, 0, 3], [1, 4, 2, 3, 0], [1, 4, 3, 0, 2], [1, 4, 3, 2, 0], [2, 0, 1, 3, 4], [2, 0, 1, 4, 3], [2, 0, 3, 1, 4], [2, 0, 3, 4, 1], [2, 0, 4, 1, 3], [2, 0, 4, 3, 1], [2, 1, 0, 3, 4], [2, 1, 0, 4, 3], [2, 1, 3, 0, 4], [2, 1, 3, 4, 0], [2, 1, 4, 0, 3], [2, 1, 4, 3, 0], [2, 3, 0, 1, 4], [2, 3, 0, 4, 1], [2, 3, 1, 0, 4], [2, 3, 1, 4, 0], [2, 3, 4, 0, 1], [2, 3, 4, 1, 0], [2, 4, 0, 1, 3], [2, 4, 0, 3, 1], [2, 4, 1, 0, 3], [2, 4, 1, 3, 0], [2, 4, 3, 0, 1], [2, 4, 3, 1, 0], [3, 0, 1, 2, 4], [3, 0, 1, 4, 2], [3, 0, 2, 1, 4], [3, 0, 2, 4, 1], [3, 0, 4, 1, 2], [3, 0, 4, 2, 1], [3, 1, 0, 2, 4], [3, 1, 0, 4, 2], [3, 1, 2, 0, 4], [3, 1, 2, 4, 0], [3, 1, 4, 0, 2], [3, 1, 4, 2, 0], [3, 2, 0, 1, 4], [3, 2, 0, 4, 1], [3, 2, 1, 0, 4], [3, 2, 1, 4, 0], [3, 2, 4, 0, 1], [3, 2, 4, 1, 0], [3, 4, 0, 1, 2], [3, 4, 0, 2, 1], [3, 4, 1, 0, 2], [3, 4, 1, 2, 0], [3, 4, 2, 0, 1], [3, 4, 2, 1, 0], [4, 0, 1, 2, 3], [4, 0, 1, 3, 2], [4, 0, 2, 1, 3], [4, 0, 2, 3, 1], [4, 0, 3, 1, 2], [4, 0, 3, 2, 1], [4, 1, 0, 2, 3], [4, 1, 0, 3, 2], [4, 1, 2, 0, 3], [4, 1, 2, 3, 0], [4, 1, 3, 0, 2], [4, 1, 3, 2, 0], [4, 2, 0, 1, 3], [4, 2, 0, 3, 1], [4, 2, 1, 0, 3], [4, 2, 1, 3, 0], [4, 2, 3, 0, 1], [4, 2, 3, 1, 0], [4, 3, 0, 1, 2], [4, 3, 0, 2, 1], [4, 3, 1, 0, 2], [4, 3, 1, 2, 0], [4, 3, 2, 0, 1], [4, 3, 2, 1, 0]]
theorem prm_chk : ∀ c, c < 6 → chk c (prm c) = true := by decide +kernel
theorem prm_len : ∀ c, c < 6 → (prm c).length ≤ 120 := by decide +kernel
theorem prm_hd : ∀ c, c < 6 → ∃ r, prm c = [0, 1, 2, 3, 4] :: r
  | 0, _ => ⟨_, rfl⟩
  | 1, _ => ⟨_, rfl⟩
  | 2, _ => ⟨_, rfl⟩
  | 3, _ => ⟨_, rfl⟩
  | 4, _ => ⟨_, rfl⟩
  | 5, _ => ⟨_, rfl⟩
  | k + 6, h => absurd h (by omega)
/-- the best of the orders, by the class -/
def zFb (C W B : Nat → Int32) (c : Nat) (t : Int32) : Int32 × (Nat → Int32) := (prm c).foldl (fun b l => zBst (fun o => zCrS C W o t c) c b (oL l)) (-1, B)
theorem p_findBest {n c : Nat} (hn : 200 ≤ n) (hc : c ≤ 5) {s : zS} (t : Int32) (h : s 16 4 = nI c) : ∃ g, m_X2_findBest n t s = some ((zFb (s 17) (s 18) (s 20) c t).1, zSt (zSt s 19 g) 20 (zFb (s 17) (s 18) (s 20) c t).2) := by
  obtain ⟨g, f1, hf1, hI, e1⟩ := for_up (fun f k (g : Nat → Int32) => m_X2_findBest_j2 n f t (nI k) (zSt s 19 g)) (fun k g => ∀ j, j < k → g j = nI j) 5 (by
    intro f k g hk hg
    refine ⟨upd g k (nI k), fun j hj => ?_, ?_⟩
    · by_cases q : j = k
      · rw [q, upd_s]
      · rw [upd_n q]; exact hg j (by omega)
    · show m_X2_findBest_j2 n (f + 1) t (nI k) (zSt s 19 g) = m_X2_findBest_j2 n f t (nI (k + 1)) (zSt s 19 (upd g k (nI k)))
      rw [m_X2_findBest_j2, if_neg (n5 hk), p_put hk (by decide), zBd_e, zLt_e, nI_s, zSt_u]) 5 n 0 (s 19) (by omega) (by omega) (fun j hj => absurd hj (Nat.not_lt_zero j))
  obtain ⟨f1, rfl⟩ : ∃ g, f1 = g + 1 := ⟨f1 - 1, by omega⟩
  obtain ⟨r, hr⟩ := prm_hd c (by omega)
  obtain ⟨g', e2⟩ := p_scan (n := n) (s := s) (by omega) hc t h (prm c) 0 n g (s 20) (-1) (prm_chk c (by omega)) (by have := prm_len c (by omega); omega) (by omega) (fun l r2 e => by
    rw [hr] at e
    cases e
    intro k hk
    rw [hI k hk]
    match k, hk with
    | 0, _ => exact ⟨by decide, rfl⟩
    | 1, _ => exact ⟨by decide, rfl⟩
    | 2, _ => exact ⟨by decide, rfl⟩
    | 3, _ => exact ⟨by decide, rfl⟩
    | 4, _ => exact ⟨by decide, rfl⟩
    | k + 5, h => exact absurd h (by omega))
  refine ⟨g', ?_⟩
  unfold m_X2_findBest
  have e1' : m_X2_findBest_j2 n n t 0 s = m_X2_findBest_j2 n (f1 + 1) t (nI 5) (zSt s 19 g) := by
    have := e1
    rw [zSt_i] at this
    exact this
  have e3 : zSt (zSt s 19 g) 20 (s 20) = zSt s 19 g := by
    rw [zSt_c (a := 19) (b := 20) (by decide), zSt_i]
  rw [e3] at e2
  rw [e1', m_X2_findBest_j2, if_pos n5e]
  exact e2
end PCr
end
section
section POr
/-! the reference's orders -/
def lay (c : Nat) : Nat → Nat → Nat → (Nat → Nat) → Nat × (Nat → Nat)
  | 0, _, q, o => (q, o)
  | k + 1, r, q, o => lay c k (r / c) (q ||| 2 ^ (r % c)) (fun j => if j = k then r % c else o j)
theorem or_bits : ∀ q, q < 32 → ∀ d, d < 5 → nI q ||| ((1 : Int32) <<< (nI d &&& 31)) = nI (q ||| 2 ^ d) ∧ q ||| 2 ^ d < 32 := by decide +kernel
theorem full_bits : ∀ c, c < 6 → ((1 : Int32) <<< (nI c &&& 31)) - (1 : Int32) = nI (2 ^ c - 1) := by decide +kernel
theorem q_lay {n c : Nat} (hc : c ≤ 5) {s : zS} (h : s 0 11 = nI c) : ∀ k f r q (g : Nat → Int32) (o : Nat → Nat), k ≤ c → k < f → r < 2147483648 → q < 32 → (∀ j, k ≤ j → j < c → o j < 5 ∧ g j = nI (o j)) → ∃ g', m_X8_laysOrder_j12 n f (nI r) (nI q) (nI k - 1) (zSt s 17 g) = some (if (lay c k r q o).1 = 2 ^ c - 1 then 1 else 0, zSt s 17 g') ∧ ∀ j, j < c → (lay c k r q o).2 j < 5 ∧ g' j = nI ((lay c k r q o).2 j) := by
  intro k
  induction k with
  | zero =>
    intro f r q g o hk hf hr hq ho
    obtain ⟨f, rfl⟩ : ∃ g, f = g + 1 := ⟨f - 1, by omega⟩
    refine ⟨g, ?_, fun j hj => ho j (by omega) hj⟩
    rw [m_X8_laysOrder_j12, if_pos (by decide), zSt_n (c := 0) (by decide), h, full_bits c (by omega)]
    show _ = some (if q = 2 ^ c - 1 then 1 else 0, _)
    have hP : 2 ^ c ≤ 2 ^ 5 := Nat.pow_le_pow_right (by decide) hc
    generalize 2 ^ c = P at hP ⊢
    by_cases e : q = P - 1
    · rw [if_pos (by rw [e]), if_pos e]; rfl
    · rw [if_neg (fun x => e ((eq_n (by omega) (by omega)).mp x)), if_neg e]; rfl
  | succ k ih =>
    intro f r q g o hk hf hr hq ho
    obtain ⟨f, rfl⟩ : ∃ g, f = g + 1 := ⟨f - 1, by omega⟩
    have hd : r % c < c := Nat.mod_lt _ (by omega)
    have hq2 := or_bits q hq (r % c) (by omega)
    have hdv : r / c ≤ r := Nat.div_le_self r c
    have hc0 : ¬ nI c = 0 := nI_ne0 (by omega) (by omega)
    rw [m_X8_laysOrder_j12, nI_pred, if_neg (nI_pos (by omega)), zSt_n (c := 0) (by decide), h, zGd_e hc0, pk_rem (by omega) (by omega) (by omega), zWr_n (by omega) (by decide), zSt_u, zSt_n (c := 0) (by decide), h, zGd_e hc0, pk_div (by omega) (by omega) (by omega), zLt_e, zRd_n (by omega) (by decide), zSt_s, upd_s, hq2.1, zLt_e, zLt_e, ← Int32.sub_eq_add_neg]
    exact ih f (r / c) (q ||| 2 ^ (r % c)) (upd g k (nI (r % c))) (fun j => if j = k then r % c else o j) (by omega) (by omega) (by omega) hq2.2 (fun j h1 h2 => by
      by_cases e : j = k
      · rw [e, upd_s]
        show (if k = k then r % c else o k) < 5 ∧ _ = nI (if k = k then r % c else o k)
        rw [if_pos rfl]
        exact ⟨by omega, rfl⟩
      · rw [upd_n e]
        show (if j = k then r % c else o j) < 5 ∧ _ = nI (if j = k then r % c else o j)
        rw [if_neg e]
        exact ho j (by omega) h2)
/-- orders, best ones and their sum replaced -/
def zT3 (s : zS) (g B : Nat → Int32) (b : Int32) : zS := zSt (zSt (zSt s 17 g) 18 B) 0 (upd (s 0) 22 b)
theorem zT3_n {s : zS} {g B : Nat → Int32} {b : Int32} {c : Nat} (h0 : c ≠ 0) (h1 : c ≠ 17) (h2 : c ≠ 18) : zT3 s g B b c = s c := by unfold zT3; rw [zSt_n h0, zSt_n h2, zSt_n h1]
theorem zT3_0 {s : zS} {g B : Nat → Int32} {b : Int32} {j : Nat} (h : j ≠ 22) : zT3 s g B b 0 j = s 0 j := by unfold zT3; rw [zSt_s, upd_n h]
theorem zT3_b {s : zS} {g B : Nat → Int32} {b : Int32} : zT3 s g B b 0 22 = b := by unfold zT3; rw [zSt_s, upd_s]
theorem zT3_g {s : zS} {g B : Nat → Int32} {b : Int32} : zT3 s g B b 17 = g := by unfold zT3; rw [zSt_n (by decide), zSt_n (by decide), zSt_s]
theorem zT3_B {s : zS} {g B : Nat → Int32} {b : Int32} : zT3 s g B b 18 = B := by unfold zT3; rw [zSt_n (by decide), zSt_s]
theorem zT3_17 {s : zS} {g g' B : Nat → Int32} {b : Int32} : zSt (zT3 s g B b) 17 g' = zT3 s g' B b := by
  unfold zT3
  rw [zSt_c (a := 0) (b := 17) (by decide), zSt_c (a := 18) (b := 17) (by decide), zSt_z]
theorem zT3_18 {s : zS} {g B B' : Nat → Int32} {b : Int32} : zSt (zT3 s g B b) 18 B' = zT3 s g B' b := by
  unfold zT3
  rw [zSt_c (a := 0) (b := 18) (by decide), zSt_z]
theorem zU_St {s : zS} {k j : Nat} {v : Int32} : zU s k j v = zSt s k (upd (s k) j v) := by
  have e : zU (zSt s k (s k)) k j v = zSt s k (upd (s k) j v) := zSt_u
  rw [zSt_i] at e
  exact e
theorem upd_2 {f : Nat → Int32} {j : Nat} {v w : Int32} : upd (upd f j v) j w = upd f j w := by
  funext i
  by_cases q : i = j
  · rw [q, upd_s, upd_s]
  · rw [upd_n q, upd_n q, upd_n q]
theorem zT3_22 {s : zS} {g B : Nat → Int32} {b x : Int32} : zU (zT3 s g B b) 0 22 x = zT3 s g B x := by
  unfold zT3
  rw [zSt_u, upd_2]
theorem zT3_i {s : zS} {x : Int32} : zU s 0 22 x = zT3 s (s 17) (s 18) x := by
  unfold zT3
  rw [zSt_i, zSt_i, zU_St]
def zOd (S : (Nat → Nat) → Int32) (c : Nat) (b : Int32 × (Nat → Int32)) (i : Nat) : Int32 × (Nat → Int32) := if (lay c c i 0 (fun _ => 0)).1 = 2 ^ c - 1 then zBst S c b (lay c c i 0 (fun _ => 0)).2 else b
theorem q_laysOrder {n c : Nat} (hn : 100 ≤ n) (hc : c ≤ 5) {s : zS} {g B : Nat → Int32} {b : Int32} (h : s 0 11 = nI c) {i : Nat} (hi : i < 2147483648) : ∃ g', m_X8_laysOrder n (nI i) (zT3 s g B b) = some (if (lay c c i 0 (fun _ => 0)).1 = 2 ^ c - 1 then 1 else 0, zT3 s g' B b) ∧ ∀ j, j < c → (lay c c i 0 (fun _ => 0)).2 j < 5 ∧ g' j = nI ((lay c c i 0 (fun _ => 0)).2 j) := by
  obtain ⟨g', e1, e2⟩ := q_lay (n := n) hc (s := zT3 s g B b) (by rw [zT3_0 (by decide)]; exact h) c n i 0 g (fun _ => 0) (Nat.le_refl _) (by omega) hi (by omega) (fun j h1 h2 => absurd h2 (by omega))
  rw [zT3_17, zT3_17] at e1
  refine ⟨g', ?_, e2⟩
  unfold m_X8_laysOrder
  rw [zLt_e, zT3_0 (by decide), h]
  exact e1
theorem q_copy {n c : Nat} (hn : 100 ≤ n) (hc : c ≤ 5) {s : zS} {g B : Nat → Int32} {b : Int32} (rec32 : Int32 → Int32 → Int32 → zS → Option (Int32 × zS)) (v1 v2 v3 : Int32) {o : Nat → Nat} (h : s 0 11 = nI c) (ho : ∀ j, j < c → o j < 5 ∧ g j = nI (o j)) : m_X8_orders_j69 rec32 n n v1 v2 v3 0 (zT3 s g B b) = rec32 v1 v2 (v3 + 1) (zT3 s g (fun k => if k < c then nI (o k) else B k) b) := by
  obtain ⟨B', f1, hf1, hI, e1⟩ := for_up (fun f k (B' : Nat → Int32) => m_X8_orders_j69 rec32 n f v1 v2 v3 (nI k) (zT3 s g B' b)) (fun k B' => B' = fun j => if j < k then nI (o j) else B j) c (by
    rintro f k B' hk rfl
    refine ⟨_, rfl, ?_⟩
    show m_X8_orders_j69 rec32 n (f + 1) v1 v2 v3 (nI k) (zT3 s g _ b) = m_X8_orders_j69 rec32 n f v1 v2 v3 (nI (k + 1)) (zT3 s g _ b)
    rw [m_X8_orders_j69, zT3_0 (by decide), h, if_neg (nI_ge hk (by omega)), zRd_n (by omega) (by decide), zT3_g, (ho k hk).2, zWr_n (by omega) (by decide), zLt_e, nI_s, zU_St, zT3_18, zT3_B]
    congr 2
    funext j
    by_cases q : j = k
    · rw [q, upd_s, if_pos (by omega)]
    · rw [upd_n q]
      by_cases q2 : j < k
      · rw [if_pos q2, if_pos (by omega)]
      · rw [if_neg q2, if_neg (by omega)]) c n 0 B (by omega) (by omega) (by funext j; rw [if_neg (by omega)])
  obtain ⟨f1, rfl⟩ : ∃ g, f1 = g + 1 := ⟨f1 - 1, by omega⟩
  refine (show _ = _ from e1).trans ?_
  show m_X8_orders_j69 rec32 n (f1 + 1) v1 v2 v3 (nI c) (zT3 s g B' b) = _
  rw [m_X8_orders_j69, zT3_0 (by decide), h, if_pos (nI_le (Nat.le_refl _) (by omega)), hI, zLt_e]
theorem q_scan {n c A : Nat} (hn : 100 ≤ n) (hc : c ≤ 5) {s : zS} (t : Int32) (h : s 0 11 = nI c) (hA : A ≤ 4000) : ∀ d i f (g B : Nat → Int32) (b : Int32), i + d = A → d < f → ∃ g', m_X8_orders_j32 n f t (nI A) (nI i) (zT3 s g B b) = some (0, zT3 s g' ((List.range' i d).foldl (zOd (fun o => zCrS (s 9) (s 10) o t c) c) (b, B)).2 ((List.range' i d).foldl (zOd (fun o => zCrS (s 9) (s 10) o t c) c) (b, B)).1) := by
  intro d
  induction d with
  | zero =>
    intro i f g B b hd hf
    obtain ⟨f, rfl⟩ : ∃ g, f = g + 1 := ⟨f - 1, by omega⟩
    refine ⟨g, ?_⟩
    rw [m_X8_orders_j32, if_pos (nI_le (by omega) (by omega))]; rfl
  | succ d ih =>
    intro i f g B b hd hf
    obtain ⟨f, rfl⟩ : ∃ g, f = g + 1 := ⟨f - 1, by omega⟩
    obtain ⟨g1, l1, l2⟩ := q_laysOrder (n := n) (g := g) (B := B) (b := b) hn hc h (i := i) (by omega)
    rw [m_X8_orders_j32, if_neg (nI_ge (by omega) (by omega)), l1, zBd_e, List.range'_succ, List.foldl_cons]
    have od : zOd (fun o => zCrS (s 9) (s 10) o t c) c (b, B) i = if (lay c c i 0 (fun _ => 0)).1 = 2 ^ c - 1 then (if zCrS (s 9) (s 10) (lay c c i 0 (fun _ => 0)).2 t c ≤ b then (b, B) else (zCrS (s 9) (s 10) (lay c c i 0 (fun _ => 0)).2 t c, fun k => if k < c then nI ((lay c c i 0 (fun _ => 0)).2 k) else B k)) else (b, B) := rfl
    rw [od]
    by_cases hv : (lay c c i 0 (fun _ => 0)).1 = 2 ^ c - 1
    · rw [if_pos hv, if_neg (by decide), if_pos hv]
      have es := q_comes (s := zT3 s g1 B b) hn t hc (by rw [zT3_0 (by decide)]; exact h) (o := (lay c c i 0 (fun _ => 0)).2) (fun k hk => by rw [zT3_g]; exact l2 k hk)
      rw [zT3_n (c := 9) (by decide) (by decide) (by decide), zT3_n (c := 10) (by decide) (by decide) (by decide)] at es
      rw [es, zBd_e, zT3_b]
      by_cases q : zCrS (s 9) (s 10) (lay c c i 0 (fun _ => 0)).2 t c ≤ b
      · rw [if_pos q, if_pos q, zLt_e, nI_s]
        exact ih (i + 1) f g1 B b (by omega) (by omega)
      · rw [if_neg q, if_neg q, es, zBd_e, zLt_e, zT3_22, q_copy hn hc _ _ _ _ h l2, nI_s]
        exact ih (i + 1) f g1 _ _ (by omega) (by omega)
    · rw [if_neg hv, if_pos rfl, if_neg hv, zLt_e, nI_s]
      exact ih (i + 1) f g1 B b (by omega) (by omega)
theorem oL_take {l : List Nat} {c k : Nat} (h : k < c) : oL (l.take c) k = oL l k := by
  show (l.take c).getD k 0 = l.getD k 0
  rw [List.getD_eq_getElem?_getD, List.getD_eq_getElem?_getD, List.getElem?_take, if_pos h]
theorem ord_eq : ∀ c, c < 6 → ((List.range (c ^ c)).filter (fun i => decide ((lay c c i 0 (fun _ => 0)).1 = 2 ^ c - 1))).map (fun i => (oT (lay c c i 0 (fun _ => 0)).2).take c) = (prm c).map (fun l => l.take c) := by decide +kernel
theorem fold_same {S : (Nat → Nat) → Int32} {c : Nat} (hc : c < 6) (hS : ∀ o o' : Nat → Nat, (∀ k, k < c → o k = o' k) → S o = S o') (z : Int32 × (Nat → Int32)) : (List.range (c ^ c)).foldl (zOd S c) z = (prm c).foldl (fun b l => zBst S c b (oL l)) z := by
  have e1 : ∀ (l : List Nat) z, l.foldl (zOd S c) z = ((l.filter (fun i => decide ((lay c c i 0 (fun _ => 0)).1 = 2 ^ c - 1))).map (fun i => (oT (lay c c i 0 (fun _ => 0)).2).take c)).foldl (fun b l => zBst S c b (oL l)) z := by
    intro l
    induction l with
    | nil => intro z; rfl
    | cons i l ih =>
      intro z
      rw [List.foldl_cons, ih]
      by_cases hv : (lay c c i 0 (fun _ => 0)).1 = 2 ^ c - 1
      · rw [List.filter_cons_of_pos (p := fun i => decide ((lay c c i 0 (fun _ => 0)).1 = 2 ^ c - 1)) (decide_eq_true hv), List.map_cons, List.foldl_cons]
        have ha : ∀ k, k < c → (lay c c i 0 (fun _ => 0)).2 k = oL ((oT (lay c c i 0 (fun _ => 0)).2).take c) k := fun k hk => by rw [oL_take hk, oLT k (by omega)]
        unfold zOd
        rw [if_pos hv, zBst_c (hS _ _ ha) ha]
      · rw [List.filter_cons_of_neg (p := fun i => decide ((lay c c i 0 (fun _ => 0)).1 = 2 ^ c - 1)) (by rw [decide_eq_false hv]; decide)]
        unfold zOd
        rw [if_neg hv]
  have e2 : ∀ (l : List (List Nat)) z, l.foldl (fun b l => zBst S c b (oL l)) z = (l.map (fun l => l.take c)).foldl (fun b l => zBst S c b (oL l)) z := by
    intro l
    induction l with
    | nil => intro z; rfl
    | cons i l ih =>
      intro z
      have ha : ∀ k, k < c → oL i k = oL (i.take c) k := fun k hk => (oL_take hk).symm
      rw [List.foldl_cons, ih, List.map_cons, List.foldl_cons, zBst_c (hS _ _ ha) ha]
  rw [e1, e2 (prm c), ord_eq c hc]
theorem q_orders {n c : Nat} (hn : 3200 ≤ n) (hc : c ≤ 5) {s : zS} (t : Int32) (h : s 0 11 = nI c) : ∃ g, m_X8_orders n t s = some (0, zT3 s g (zFb (s 9) (s 10) (s 18) c t).2 (zFb (s 9) (s 10) (s 18) c t).1) := by
  have hA : c ^ c ≤ 4000 := by have := (by decide +kernel : ∀ c, c < 6 → c ^ c ≤ 3125) c (by omega); omega
  have hA2 : c ^ c < n := by have := (by decide +kernel : ∀ c, c < 6 → c ^ c ≤ 3125) c (by omega); omega
  obtain ⟨v, f1, hf1, hI, e1⟩ := for_up (fun f k (v : Int32) => m_X8_orders_j4 n f t v (nI k) s) (fun k v => v = nI (c ^ k)) c (by
    rintro f k v hk rfl
    refine ⟨_, rfl, ?_⟩
    show m_X8_orders_j4 n (f + 1) t (nI (c ^ k)) (nI k) s = m_X8_orders_j4 n f t (nI (c ^ (k + 1))) (nI (k + 1)) s
    rw [m_X8_orders_j4, h, if_neg (nI_ge hk (by omega)), pk_mul, zLt_e, zLt_e, nI_s, Nat.pow_succ]) c n 0 1 (by omega) (by omega) (by rw [Nat.pow_zero]; rfl)
  obtain ⟨f1, rfl⟩ : ∃ g, f1 = g + 1 := ⟨f1 - 1, by omega⟩
  obtain ⟨g', e2⟩ := q_scan (n := n) (A := c ^ c) (by omega) hc t h hA (c ^ c) 0 n (s 17) (s 18) (-1) (by omega) hA2
  refine ⟨g', ?_⟩
  unfold m_X8_orders
  refine (show _ = _ from e1).trans ?_
  show m_X8_orders_j4 n (f1 + 1) t v (nI c) s = _
  rw [m_X8_orders_j4, h, if_pos (nI_le (Nat.le_refl _) (by omega)), zLt_e, zT3_i, hI]
  refine (show _ = _ from e2).trans ?_
  rw [← List.range_eq_range', fold_same (by omega) (fun o o' ho => (zCr_c ho c (Nat.le_refl _)).2)]
  rfl
end POr
end
section
section PWy
/-! explanations -/
def wAdd (l : List Nat) (k : Nat) : List Nat := if k ∈ l then l else l ++ [k]
def wOk (l : List Nat) : Prop := l.Nodup ∧ ∀ k, k ∈ l → k < 16
theorem wOk_len {l : List Nat} (h : wOk l) : l.length ≤ 16 := by
  have := h.1.length_le_of_subset (l₂ := List.range 16) (fun k hk => List.mem_range.mpr (h.2 k hk))
  rw [List.length_range] at this
  exact this
theorem wOk_new {l : List Nat} {a : Nat} (h : wOk l) (ha : a < 16) (hn : ¬ a ∈ l) : wOk (l ++ [a]) := by
  refine ⟨List.nodup_append.mpr ⟨h.1, List.nodup_cons.mpr ⟨List.not_mem_nil, List.nodup_nil⟩, fun x hx y hy e => ?_⟩, fun k hk => ?_⟩
  · rw [List.mem_singleton.mp hy] at e
    exact hn (e ▸ hx)
  · rcases List.mem_append.mp hk with q | q
    · exact h.2 k q
    · rw [List.mem_singleton.mp q]; exact ha
theorem wOk_add {l : List Nat} {a : Nat} (h : wOk l) (ha : a < 16) : wOk (wAdd l a) := by
  unfold wAdd
  split
  · exact h
  · exact wOk_new h ha (by assumption)
def wRs (K F G e : Nat → Int32) (l : List Nat) (k : Nat) : List Nat :=
  if K k = 1 ∨ K k = 2 then wAdd (wAdd l (zN (F k))) (zN (G k))
  else if K k = 3 ∨ K k = 6 ∨ K k = 7 then wAdd l (zN (F k))
  else if K k = 4 ∨ K k = 5 ∨ K k = 8 then (if e (zN (F k)) = e k then wAdd l (zN (F k)) else wAdd l (zN (G k)))
  else l
theorem wRs_two {K F G e : Nat → Int32} {l : List Nat} {k : Nat} (h : K k = 1 ∨ K k = 2) : wRs K F G e l k = wAdd (wAdd l (zN (F k))) (zN (G k)) := by
  unfold wRs
  rw [if_pos h]
theorem wRs_one {K F G e : Nat → Int32} {l : List Nat} {k : Nat} (h : K k = 3 ∨ K k = 6 ∨ K k = 7) : wRs K F G e l k = wAdd l (zN (F k)) := by
  unfold wRs
  rw [if_neg (by rcases h with q | q | q <;> rw [q] <;> decide), if_pos h]
theorem wRs_ch {K F G e : Nat → Int32} {l : List Nat} {k : Nat} (h : K k = 4 ∨ K k = 5 ∨ K k = 8) : wRs K F G e l k = (if e (zN (F k)) = e k then wAdd l (zN (F k)) else wAdd l (zN (G k))) := by
  unfold wRs
  rw [if_neg (by rcases h with q | q | q <;> rw [q] <;> decide), if_neg (by rcases h with q | q | q <;> rw [q] <;> decide), if_pos h]
theorem wRs_0 {K F G e : Nat → Int32} {l : List Nat} {k : Nat} (h : K k = 0) : wRs K F G e l k = l := by
  unfold wRs
  rw [if_neg (by rw [h]; decide), if_neg (by rw [h]; decide), if_neg (by rw [h]; decide)]
theorem wRs_ok {K F G e : Nat → Int32} (hw : zWf K F G) {l : List Nat} {k : Nat} (hk : k < 16) (h : wOk l) : wOk (wRs K F G e l k) := by
  rcases zK_cases hw hk with c | c | c | c | c | c | c | c | c
  · rw [wRs_0 c]; exact h
  · rw [wRs_two (Or.inl c)]; exact wOk_add (wOk_add h (zWf_f hw hk (by rw [c]; decide)).1) (zWf_g hw hk (by rw [c]; decide)).1
  · rw [wRs_two (Or.inr c)]; exact wOk_add (wOk_add h (zWf_f hw hk (by rw [c]; decide)).1) (zWf_g hw hk (by rw [c]; decide)).1
  · rw [wRs_one (Or.inl c)]; exact wOk_add h (zWf_f hw hk (by rw [c]; decide)).1
  · rw [wRs_ch (Or.inl c)]; split
    · exact wOk_add h (zWf_f hw hk (by rw [c]; decide)).1
    · exact wOk_add h (zWf_g hw hk (by rw [c]; decide)).1
  · rw [wRs_ch (Or.inr (Or.inl c))]; split
    · exact wOk_add h (zWf_f hw hk (by rw [c]; decide)).1
    · exact wOk_add h (zWf_g hw hk (by rw [c]; decide)).1
  · rw [wRs_one (Or.inr (Or.inl c))]; exact wOk_add h (zWf_f hw hk (by rw [c]; decide)).1
  · rw [wRs_one (Or.inr (Or.inr c))]; exact wOk_add h (zWf_f hw hk (by rw [c]; decide)).1
  · rw [wRs_ch (Or.inr (Or.inr c))]; split
    · exact wOk_add h (zWf_f hw hk (by rw [c]; decide)).1
    · exact wOk_add h (zWf_g hw hk (by rw [c]; decide)).1
def wLp (K F G e : Nat → Int32) : Nat → Nat → List Nat → List Nat
  | 0, _, l => l
  | f + 1, p, l => if p < l.length then wLp K F G e f (p + 1) (wRs K F G e l (l.getD p 0)) else l
theorem wGet {l : List Nat} {p : Nat} (h : wOk l) (hp : p < l.length) : l.getD p 0 < 16 := by
  rw [List.getD_eq_getElem?_getD, List.getElem?_eq_getElem hp]
  exact h.2 _ (List.getElem_mem hp)
def wAns (l : List Nat) (v : Int32) : Int32 := if nI l.length ≤ v then -1 else nI (l.getD v.toNatClampNeg 0)
/-- a row, and which lines are in it -/
def wRow (l : List Nat) (r : Nat → Int32) (v : Int32) : Prop := (∀ p, p < l.length → r p = nI (l.getD p 0)) ∧ ∀ j, j < 32 → bt v j = decide (j ∈ l)
theorem wRow_new {l : List Nat} {r : Nat → Int32} {v : Int32} {a : Nat} (h : wRow l r v) (ha : a < 16) : wRow (l ++ [a]) (upd r l.length (nI a)) (v ||| zBit (nI a)) := by
  refine ⟨fun p hp => ?_, fun j hj => ?_⟩
  · rw [List.length_append] at hp
    have hp' : p < l.length + 1 := hp
    by_cases q : p = l.length
    · rw [q, upd_s, List.getD_eq_getElem?_getD, List.getElem?_append_right (Nat.le_refl _), Nat.sub_self]; rfl
    · rw [upd_n q, h.1 p (by omega), List.getD_eq_getElem?_getD, List.getD_eq_getElem?_getD, List.getElem?_append_left (by omega)]
  · rw [b_or, h.2 j hj, bt_bit (by omega) hj]
    by_cases q1 : j ∈ l
    · rw [decide_eq_true q1, decide_eq_true (List.mem_append.mpr (Or.inl q1))]; rfl
    · by_cases q2 : j = a
      · rw [decide_eq_true q2, decide_eq_true (List.mem_append.mpr (Or.inr (List.mem_singleton.mpr q2)))]; simp
      · rw [decide_eq_false q1, decide_eq_false q2, decide_eq_false (fun q => by
          rcases List.mem_append.mp q with q | q
          · exact q1 q
          · exact q2 (List.mem_singleton.mp q))]; rfl
/-- the class's row -/
def xSt (s : zS) (l : List Nat) (s' : zS) : Prop := (∀ c, c ≠ 25 → c ≠ 26 → s' c = s c) ∧ s' 25 1 = nI l.length ∧ wRow l (s' 26) (s' 25 2) ∧ wOk l
theorem p_wadd {n a : Nat} {s s' : zS} {l : List Nat} (h : xSt s l s') (ha : a < 16) : ∃ s'', m_X3_add n (nI a) s' = some (0, s'') ∧ xSt s (wAdd l a) s'' := by
  obtain ⟨h1, h2, h3, h4⟩ := h
  unfold m_X3_add wAdd
  rw [p_has, zBd_e, has_n (by omega), h3.2 a (by omega)]
  by_cases q : a ∈ l
  · rw [if_pos (decide_eq_true q), if_neg (by decide), if_pos q]
    exact ⟨s', rfl, h1, h2, h3, h4⟩
  · have hk := wOk_new h4 ha q
    have hlen := wOk_len hk
    rw [List.length_append] at hlen
    have hlen' : l.length + 1 ≤ 16 := hlen
    rw [if_neg (fun e => q (of_decide_eq_true e)), if_pos rfl, if_neg q, h2, p_put (by omega) (by decide), zBd_e, zLt_e, zU_ne (a := 25) (k := 26) (by decide), h2, nI_s, p_bit, zBd_e, zLt_e]
    refine ⟨_, rfl, fun c c1 c2 => ?_, ?_, ?_, hk⟩
    · rw [zU_ne c1, zU_ne c1, zU_ne c2]; exact h1 c c1 c2
    · rw [zU_nj (by decide), zU_eq, List.length_append]; rfl
    · rw [zU_ne (a := 26) (by decide), zU_ne (a := 26) (by decide), zU_k, zU_eq, zU_nj (by decide), zU_ne (by decide)]
      exact wRow_new h3 ha
theorem p_reasons {n k : Nat} {s s' : zS} {l : List Nat} {e : Nat → Int32} (hw : zWf (s 2) (s 3) (s 4)) (he : ∀ k, k < 16 → s 22 k = e k) (h : xSt s l s') (hk : k < 16) : ∃ s'', m_X3_addReasons n (nI k) s' = some (0, s'') ∧ xSt s (wRs (s 2) (s 3) (s 4) e l k) s'' := by
  have r2 : ∀ {u : zS} {l}, xSt s l u → zAt u 2 16 (nI k) = s 2 k := fun {u l} hu => by rw [a16 hk, hu.1 2 (by decide) (by decide)]
  have r3 : ∀ {u : zS} {l}, xSt s l u → zAt u 3 16 (nI k) = s 3 k := fun {u l} hu => by rw [a16 hk, hu.1 3 (by decide) (by decide)]
  have r4 : ∀ {u : zS} {l}, xSt s l u → zAt u 4 16 (nI k) = s 4 k := fun {u l} hu => by rw [a16 hk, hu.1 4 (by decide) (by decide)]
  have r22 : ∀ {u : zS} {l} {j}, xSt s l u → j < 16 → zAt u 22 16 (nI j) = e j := fun {u l j} hu hj => by rw [a16 hj, hu.1 22 (by decide) (by decide), he j hj]
  unfold m_X3_addReasons
  rw [p_first, zBd_e, p_kind, zBd_e, r2 h, r3 h]
  have two : (s 2 k = 1 ∨ s 2 k = 2) → ∃ s'', (zBd (m_X3_add n (s 3 k) s') fun x6 s7 => zBd (m_X5_second n (nI k) s7) fun x8 s9 => zBd (m_X3_add n x8 s9) fun x10 s11 => zRt 0 s11) = some (0, s'') ∧ xSt s (wRs (s 2) (s 3) (s 4) e l k) s'' := by
    intro c
    obtain ⟨f1, f2⟩ := zWf_f hw hk (by rcases c with c | c <;> rw [c] <;> decide)
    obtain ⟨g1, g2⟩ := zWf_g hw hk (by rcases c with c | c <;> rw [c] <;> decide)
    rw [wRs_two c, f2]
    obtain ⟨u, u1, u2⟩ := p_wadd (n := n) h f1
    obtain ⟨t, t1, t2⟩ := p_wadd (n := n) u2 g1
    rw [u1, zBd_e, p_second, zBd_e, r4 u2, g2, t1, zBd_e, zN_n (by omega), zN_n (by omega)]
    exact ⟨t, rfl, t2⟩
  have one : (s 2 k = 3 ∨ s 2 k = 6 ∨ s 2 k = 7) → ∃ s'', (zBd (m_X3_add n (s 3 k) s') fun x20 s21 => zRt 0 s21) = some (0, s'') ∧ xSt s (wRs (s 2) (s 3) (s 4) e l k) s'' := by
    intro c
    obtain ⟨f1, f2⟩ := zWf_f hw hk (by rcases c with c | c | c <;> rw [c] <;> decide)
    rw [wRs_one c, f2]
    obtain ⟨u, u1, u2⟩ := p_wadd (n := n) h f1
    rw [u1, zBd_e, zN_n (by omega)]
    exact ⟨u, rfl, u2⟩
  have ch : (s 2 k = 4 ∨ s 2 k = 5 ∨ s 2 k = 8) → ∃ s'', (zBd (m_X6_of n (s 3 k) s') fun x23 s24 => zBd (m_X6_of n (nI k) s24) fun x25 s26 => if x23 = x25 then (zBd (m_X3_add n (s 3 k) s26) fun x32 s33 => zRt 0 s33) else (zBd (m_X5_second n (nI k) s26) fun x28 s29 => zBd (m_X3_add n x28 s29) fun x30 s31 => zRt 0 s31)) = some (0, s'') ∧ xSt s (wRs (s 2) (s 3) (s 4) e l k) s'' := by
    intro c
    obtain ⟨f1, f2⟩ := zWf_f hw hk (by rcases c with c | c | c <;> rw [c] <;> decide)
    obtain ⟨g1, g2⟩ := zWf_g hw hk (by rcases c with c | c | c <;> rw [c] <;> decide)
    rw [wRs_ch c, f2, p_of, zBd_e, p_of, zBd_e, r22 h f1, r22 h hk, zN_n (show zN (s 3 k) < 2147483648 by omega)]
    by_cases q : e (zN (s 3 k)) = e k
    · rw [if_pos q, if_pos q]
      obtain ⟨u, u1, u2⟩ := p_wadd (n := n) h f1
      rw [u1, zBd_e]
      exact ⟨u, rfl, u2⟩
    · rw [if_neg q, if_neg q]
      obtain ⟨u, u1, u2⟩ := p_wadd (n := n) h g1
      rw [p_second, zBd_e, r4 h, g2, u1, zBd_e, zN_n (by omega)]
      exact ⟨u, rfl, u2⟩
  rcases zK_cases hw hk with c | c | c | c | c | c | c | c | c
  · rw [c, if_neg (by decide), if_neg (by decide), if_neg (by decide), if_neg (by decide), if_neg (by decide), if_neg (by decide), if_neg (by decide), if_neg (by decide), wRs_0 c]
    exact ⟨s', rfl, h⟩
  · rw [if_pos c]; exact two (Or.inl c)
  · rw [if_neg (by rw [c]; decide), if_pos c]; exact two (Or.inr c)
  · rw [if_neg (by rw [c]; decide), if_neg (by rw [c]; decide), if_pos c]; exact one (Or.inl c)
  · rw [if_neg (by rw [c]; decide), if_neg (by rw [c]; decide), if_neg (by rw [c]; decide), if_pos c]; exact ch (Or.inl c)
  · rw [if_neg (by rw [c]; decide), if_neg (by rw [c]; decide), if_neg (by rw [c]; decide), if_neg (by rw [c]; decide), if_pos c]; exact ch (Or.inr (Or.inl c))
  · rw [if_neg (by rw [c]; decide), if_neg (by rw [c]; decide), if_neg (by rw [c]; decide), if_neg (by rw [c]; decide), if_neg (by rw [c]; decide), if_pos c]; exact one (Or.inr (Or.inl c))
  · rw [if_neg (by rw [c]; decide), if_neg (by rw [c]; decide), if_neg (by rw [c]; decide), if_neg (by rw [c]; decide), if_neg (by rw [c]; decide), if_neg (by rw [c]; decide), if_pos c]; exact one (Or.inr (Or.inr c))
  · rw [if_neg (by rw [c]; decide), if_neg (by rw [c]; decide), if_neg (by rw [c]; decide), if_neg (by rw [c]; decide), if_neg (by rw [c]; decide), if_neg (by rw [c]; decide), if_neg (by rw [c]; decide), if_pos c]; exact ch (Or.inr (Or.inr c))
theorem p_rows {n : Nat} {s : zS} {e : Nat → Int32} (hw : zWf (s 2) (s 3) (s 4)) (he : ∀ k, k < 16 → s 22 k = e k) : ∀ d p f (l : List Nat) (s' : zS), p + d = 16 → d < f → xSt s l s' → ∃ s'', m_X3_explain_j18 n f (nI p) s' = some (0, s'') ∧ xSt s (wLp (s 2) (s 3) (s 4) e d p l) s'' := by
  intro d
  induction d with
  | zero =>
    intro p f l s' hp hf h
    obtain ⟨f, rfl⟩ : ∃ g, f = g + 1 := ⟨f - 1, by omega⟩
    obtain rfl : p = 16 := by omega
    refine ⟨s', ?_, h⟩
    rw [m_X3_explain_j18, if_pos n16e]; rfl
  | succ d ih =>
    intro p f l s' hp hf h
    obtain ⟨f, rfl⟩ : ∃ g, f = g + 1 := ⟨f - 1, by omega⟩
    have hlen := wOk_len h.2.2.2
    rw [m_X3_explain_j18, if_neg (n16 (by omega)), h.2.1]
    unfold wLp
    by_cases q : p < l.length
    · rw [if_neg (nI_ge q (by omega)), if_pos q, p_at (by decide), zBd_e, a16 (by omega), h.2.2.1.1 p q]
      obtain ⟨u, u1, u2⟩ := p_reasons (n := n) hw he h (wGet h.2.2.2 q)
      rw [u1, zBd_e, zLt_e, nI_s]
      exact ih (p + 1) f _ u (by omega) (by omega) u2
    · rw [if_pos (nI_le (by omega) (by omega)), if_neg q]
      exact ⟨s', rfl, h⟩
theorem p_explain {n a : Nat} (hn : 100 ≤ n) {s : zS} {e : Nat → Int32} (hw : zWf (s 2) (s 3) (s 4)) (he : ∀ k, k < 16 → s 22 k = e k) (ha : a < 16) : ∃ s', m_X3_explain n (nI a) s = some (0, s') ∧ (∀ c, c ≠ 25 → c ≠ 26 → s' c = s c) ∧ ∀ v : Int32, ¬ v < 0 → m_X3_lineAt n v s' = some (wAns (wLp (s 2) (s 3) (s 4) e 16 0 [a]) v, s') := by
  have h0 : xSt s [] (zU (zU s 25 1 0) 25 2 0) := ⟨fun c c1 c2 => by rw [zU_ne c1, zU_ne c1], by rw [zU_nj (by decide), zU_eq]; rfl, ⟨fun p hp => absurd hp (Nat.not_lt_zero p), fun j hj => by rw [zU_eq, b_0]; rfl⟩, List.nodup_nil, fun k hk => absurd hk List.not_mem_nil⟩
  obtain ⟨u, u1, u2⟩ := p_wadd (n := n) h0 ha
  obtain ⟨t, t1, t2⟩ := p_rows (n := n) hw he 16 0 n [a] u (by omega) (by omega) u2
  refine ⟨t, ?_, t2.1, fun v hv => ?_⟩
  · unfold m_X3_explain
    rw [zLt_e, zLt_e, u1, zBd_e]
    exact t1
  · have hlen := wOk_len t2.2.2.2
    unfold m_X3_lineAt wAns
    rw [if_neg hv, t2.2.1]
    by_cases q : nI (wLp (s 2) (s 3) (s 4) e 16 0 [a]).length ≤ v
    · rw [if_pos q, if_pos q]; rfl
    · obtain ⟨j, hj, rfl⟩ := vp_of (by omega) hv q
      rw [if_neg q, if_neg q, p_at (by decide), zBd_e, a16 (by omega), t2.2.2.1.1 j hj, nI_cl (by omega)]; rfl
end PWy
end
section
section PWq
/-! the reference's explanation -/
def mSt (m : zS) (l : List Nat) (m' : zS) (v3 v4 : Int32) : Prop := (∀ c, c ≠ 15 → m' c = m c) ∧ v3 = nI l.length ∧ wRow l (m' 15) v4 ∧ wOk l
theorem mSt_new {m m' : zS} {l : List Nat} {v3 v4 : Int32} {a : Nat} (h : mSt m l m' v3 v4) (ha : a < 16) (q : ¬ a ∈ l) : l.length < 16 ∧ mSt m (l ++ [a]) (zU m' 15 l.length (nI a)) (v3 + 1) (v4 ||| ((1 : Int32) <<< (nI a &&& 31))) := by
  obtain ⟨h1, h2, h3, h4⟩ := h
  have hk := wOk_new h4 ha q
  have hlen := wOk_len hk
  rw [List.length_append] at hlen
  have hlen' : l.length + 1 ≤ 16 := hlen
  refine ⟨by omega, fun c hc => by rw [zU_ne hc]; exact h1 c hc, by rw [h2, nI_s, List.length_append]; rfl, ?_, hk⟩
  rw [zU_k]
  exact wRow_new h3 ha
theorem q_sec {n k : Nat} {m m' : zS} {l : List Nat} {v2 v3 v4 v5 : Int32} (rec52 : Int32 → Int32 → Int32 → Int32 → zS → Option (Int32 × zS)) (h : mSt m l m' v3 v4) (hk : k < 16) (hg : zN (m 3 k) < 16 ∧ m 3 k = nI (zN (m 3 k))) : ∃ v3' v4' m'', m_X8_why_j220 rec52 n v2 v3 v4 v5 (nI k) 1 m' = rec52 v2 v3' v4' (v5 + 1) m'' ∧ mSt m (wAdd l (zN (m 3 k))) m'' v3' v4' := by
  obtain ⟨g1, g2⟩ := hg
  unfold m_X8_why_j220 wAdd
  rw [if_neg (by decide), zRd_n hk (by decide), h.1 3 (by decide), g2, zN_n (by omega)]
  by_cases q : zN (m 3 k) ∈ l
  · rw [if_neg (fun e => (tb_0 (by omega)).mp e (by rw [h.2.2.1.2 _ (by omega)]; exact decide_eq_true q)), if_pos q, zLt_e]
    exact ⟨v3, v4, m', rfl, h⟩
  · obtain ⟨n1, n2⟩ := mSt_new h g1 q
    rw [if_pos ((tb_0 (by omega)).mpr (fun e => q (by rw [h.2.2.1.2 _ (by omega)] at e; exact of_decide_eq_true e))), if_neg q, zRd_n hk (by decide), g2, zN_n (by omega), h.2.1, zWr_n n1 (by decide), zRd_n hk (by decide), zU_ne (a := 3) (by decide), h.1 3 (by decide), g2, zN_n (by omega), zLt_e, zLt_e, zLt_e, ← h.2.1]
    exact ⟨_, _, _, rfl, n2⟩
theorem q_fst {n k : Nat} {m m' : zS} {l : List Nat} {v2 v3 v4 v5 t0 : Int32} (rec52 : Int32 → Int32 → Int32 → Int32 → zS → Option (Int32 × zS)) (h : mSt m l m' v3 v4) (hk : k < 16) (hg : zN (m 2 k) < 16 ∧ m 2 k = nI (zN (m 2 k))) : ∃ v3' v4' m'', m_X8_why_j168 rec52 n v2 v3 v4 v5 (nI k) 1 t0 m' = m_X8_why_j220 rec52 n v2 v3' v4' v5 (nI k) t0 m'' ∧ mSt m (wAdd l (zN (m 2 k))) m'' v3' v4' := by
  obtain ⟨g1, g2⟩ := hg
  unfold m_X8_why_j168 wAdd
  rw [if_neg (by decide), zRd_n hk (by decide), h.1 2 (by decide), g2, zN_n (by omega)]
  by_cases q : zN (m 2 k) ∈ l
  · rw [if_neg (fun e => (tb_0 (by omega)).mp e (by rw [h.2.2.1.2 _ (by omega)]; exact decide_eq_true q)), if_pos q]
    exact ⟨v3, v4, m', rfl, h⟩
  · obtain ⟨n1, n2⟩ := mSt_new h g1 q
    rw [if_pos ((tb_0 (by omega)).mpr (fun e => q (by rw [h.2.2.1.2 _ (by omega)] at e; exact of_decide_eq_true e))), if_neg q, zRd_n hk (by decide), g2, zN_n (by omega), h.2.1, zWr_n n1 (by decide), zRd_n hk (by decide), zU_ne (a := 2) (by decide), h.1 2 (by decide), g2, zN_n (by omega), zLt_e, zLt_e, ← h.2.1]
    exact ⟨_, _, _, rfl, n2⟩
theorem q_step {n f p : Nat} {m m' : zS} {l : List Nat} {v2 v3 v4 : Int32} {e : Nat → Int32} (hw : zWf (m 1) (m 2) (m 3)) (he : ∀ k, k < 16 → m 11 k = e k) (h : mSt m l m' v3 v4) (hp : p < l.length) : ∃ v3' v4' m'', m_X8_why_j52 n (f + 1) v2 v3 v4 (nI p) m' = m_X8_why_j52 n f v2 v3' v4' (nI (p + 1)) m'' ∧ mSt m (wRs (m 1) (m 2) (m 3) e l (l.getD p 0)) m'' v3' v4' := by
  have hlen := wOk_len h.2.2.2
  have hk := wGet h.2.2.2 hp
  rw [m_X8_why_j52, h.2.1, if_neg (nI_ge hp (by omega)), ← h.2.1, zRd_n (by omega) (by decide), h.2.2.1.1 p hp, zRd_n hk (by decide), h.1 1 (by decide)]
  generalize l.getD p 0 = k at hk ⊢
  have two : (m 1 k = 1 ∨ m 1 k = 2) → ∃ v3' v4' m'', m_X8_why_j168 (m_X8_why_j52 n f) n v2 v3 v4 (nI p) (nI k) 1 1 m' = m_X8_why_j52 n f v2 v3' v4' (nI (p + 1)) m'' ∧ mSt m (wRs (m 1) (m 2) (m 3) e l k) m'' v3' v4' := by
    intro c
    obtain ⟨a1, a2, a3, a4, a5⟩ := q_fst (n := n) (v2 := v2) (v5 := nI p) (t0 := 1) (m_X8_why_j52 n f) h hk (zWf_f hw hk (by rcases c with c | c <;> rw [c] <;> decide))
    obtain ⟨b1, b2, b3, b4, b5⟩ := q_sec (n := n) (v2 := v2) (v5 := nI p) (m_X8_why_j52 n f) a5 hk (zWf_g hw hk (by rcases c with c | c <;> rw [c] <;> decide))
    rw [wRs_two c, a4, b4, nI_s]
    exact ⟨b1, b2, b3, rfl, b5⟩
  have one : ∀ L, L = wAdd l (zN (m 2 k)) → ¬ m 1 k = 0 → ∃ v3' v4' m'', m_X8_why_j168 (m_X8_why_j52 n f) n v2 v3 v4 (nI p) (nI k) 1 0 m' = m_X8_why_j52 n f v2 v3' v4' (nI (p + 1)) m'' ∧ mSt m L m'' v3' v4' := by
    rintro L rfl c
    obtain ⟨a1, a2, a3, a4, a5⟩ := q_fst (n := n) (v2 := v2) (v5 := nI p) (t0 := 0) (m_X8_why_j52 n f) h hk (zWf_f hw hk c)
    rw [a4]
    unfold m_X8_why_j220
    rw [if_pos rfl, zLt_e, nI_s]
    exact ⟨a1, a2, a3, rfl, a5⟩
  have ch : (m 1 k = 4 ∨ m 1 k = 5 ∨ m 1 k = 8) → ∃ v3' v4' m'', m_X8_why_j100 (m_X8_why_j52 n f) n v2 v3 v4 (nI p) (nI k) (m 1 k) 1 m' = m_X8_why_j52 n f v2 v3' v4' (nI (p + 1)) m'' ∧ mSt m (wRs (m 1) (m 2) (m 3) e l k) m'' v3' v4' := by
    intro c
    have c0 : ¬ m 1 k = 0 := by rcases c with c | c | c <;> rw [c] <;> decide
    have c1 : ¬ m 1 k = 1 := by rcases c with c | c | c <;> rw [c] <;> decide
    have c2 : ¬ m 1 k = 2 := by rcases c with c | c | c <;> rw [c] <;> decide
    obtain ⟨f1, f2⟩ := zWf_f hw hk c0
    have eq1 : m' 11 (zN (m 2 k)) = e (zN (m 2 k)) := by rw [h.1 11 (by decide), he _ f1]
    have eq2 : m' 11 k = e k := by rw [h.1 11 (by decide), he _ hk]
    unfold m_X8_why_j100
    rw [if_neg c0, if_neg (by decide), zRd_n hk (by decide), h.1 2 (by decide), f2, zRd_n (by omega) (by decide), zRd_n (by omega) (by decide), eq1, eq2, wRs_ch c]
    unfold m_X8_why_j139
    by_cases q : e (zN (m 2 k)) = e k
    · rw [if_pos q, if_pos q, if_neg c1, if_neg c2, if_neg (by decide), if_neg (by decide)]
      exact one _ rfl c0
    · rw [if_neg q, if_neg q, if_neg c1, if_neg c2, if_neg (by decide), if_pos rfl]
      obtain ⟨b1, b2, b3, b4, b5⟩ := q_sec (n := n) (v2 := v2) (v5 := nI p) (m_X8_why_j52 n f) h hk (zWf_g hw hk (by rcases c with c | c | c <;> rw [c] <;> decide))
      unfold m_X8_why_j168
      rw [if_pos rfl, b4, nI_s]
      exact ⟨b1, b2, b3, rfl, b5⟩
  have pl : ¬ m 1 k = 4 → ¬ m 1 k = 5 → ¬ m 1 k = 8 → ∀ x, (if m 1 k = 4 then (m_X8_why_j100 (m_X8_why_j52 n f) n v2 v3 v4 (nI p) (nI k) (m 1 k) (1 : Int32) m') else (if m 1 k = 5 then (m_X8_why_j100 (m_X8_why_j52 n f) n v2 v3 v4 (nI p) (nI k) (m 1 k) (1 : Int32) m') else (if m 1 k = 8 then (m_X8_why_j100 (m_X8_why_j52 n f) n v2 v3 v4 (nI p) (nI k) (m 1 k) (1 : Int32) m') else (m_X8_why_j100 (m_X8_why_j52 n f) n v2 v3 v4 (nI p) (nI k) (m 1 k) (0 : Int32) m')))) = x ↔ (if m 1 k = 0 then (m_X8_why_j139 (m_X8_why_j52 n f) n v2 v3 v4 (nI p) (nI k) (m 1 k) 0 0 m') else (m_X8_why_j139 (m_X8_why_j52 n f) n v2 v3 v4 (nI p) (nI k) (m 1 k) 0 1 m')) = x := by
    intro h4 h5 h8 x
    rw [if_neg h4, if_neg h5, if_neg h8]
    unfold m_X8_why_j100
    rw [if_pos (show (0 : Int32) = 0 from rfl)]
  rcases zK_cases hw hk with c | c | c | c | c | c | c | c | c
  · simp only [pl (by rw [c]; decide) (by rw [c]; decide) (by rw [c]; decide)]
    rw [if_pos c, wRs_0 c]
    unfold m_X8_why_j139
    rw [if_neg (by rw [c]; decide), if_neg (by rw [c]; decide), if_pos rfl]
    unfold m_X8_why_j168
    rw [if_pos rfl]
    unfold m_X8_why_j220
    rw [if_pos rfl, zLt_e, nI_s]
    exact ⟨v3, v4, m', rfl, h⟩
  · simp only [pl (by rw [c]; decide) (by rw [c]; decide) (by rw [c]; decide)]
    rw [if_neg (by rw [c]; decide)]
    unfold m_X8_why_j139
    rw [if_pos c]
    exact two (Or.inl c)
  · simp only [pl (by rw [c]; decide) (by rw [c]; decide) (by rw [c]; decide)]
    rw [if_neg (by rw [c]; decide)]
    unfold m_X8_why_j139
    rw [if_neg (by rw [c]; decide), if_pos c]
    exact two (Or.inr c)
  · simp only [pl (by rw [c]; decide) (by rw [c]; decide) (by rw [c]; decide)]
    rw [if_neg (by rw [c]; decide), wRs_one (Or.inl c)]
    unfold m_X8_why_j139
    rw [if_neg (by rw [c]; decide), if_neg (by rw [c]; decide), if_pos rfl]
    exact one _ rfl (by rw [c]; decide)
  · rw [if_pos c]; exact ch (Or.inl c)
  · rw [if_neg (by rw [c]; decide), if_pos c]; exact ch (Or.inr (Or.inl c))
  · simp only [pl (by rw [c]; decide) (by rw [c]; decide) (by rw [c]; decide)]
    rw [if_neg (by rw [c]; decide), wRs_one (Or.inr (Or.inl c))]
    unfold m_X8_why_j139
    rw [if_neg (by rw [c]; decide), if_neg (by rw [c]; decide), if_pos rfl]
    exact one _ rfl (by rw [c]; decide)
  · simp only [pl (by rw [c]; decide) (by rw [c]; decide) (by rw [c]; decide)]
    rw [if_neg (by rw [c]; decide), wRs_one (Or.inr (Or.inr c))]
    unfold m_X8_why_j139
    rw [if_neg (by rw [c]; decide), if_neg (by rw [c]; decide), if_pos rfl]
    exact one _ rfl (by rw [c]; decide)
  · rw [if_neg (by rw [c]; decide), if_neg (by rw [c]; decide), if_pos c]; exact ch (Or.inr (Or.inr c))
theorem q_rows {n : Nat} {m : zS} {e : Nat → Int32} {v2 : Int32} (hv : ¬ v2 < 0) (hw : zWf (m 1) (m 2) (m 3)) (he : ∀ k, k < 16 → m 11 k = e k) : ∀ d p f (l : List Nat) (m' : zS) (v3 v4 : Int32), p + d = 16 → d < f → mSt m l m' v3 v4 → ∃ m'', m_X8_why_j52 n f v2 v3 v4 (nI p) m' = some (wAns (wLp (m 1) (m 2) (m 3) e d p l) v2, m'') ∧ ∀ c, c ≠ 15 → m'' c = m c := by
  have fin : ∀ p f (l : List Nat) (m' : zS) (v3 v4 : Int32), 0 < f → l.length ≤ p → p ≤ 16 → mSt m l m' v3 v4 → ∃ m'', m_X8_why_j52 n f v2 v3 v4 (nI p) m' = some (wAns l v2, m'') ∧ ∀ c, c ≠ 15 → m'' c = m c := by
    intro p f l m' v3 v4 hf h1 h2 h
    obtain ⟨f, rfl⟩ : ∃ g, f = g + 1 := ⟨f - 1, by omega⟩
    have hlen := wOk_len h.2.2.2
    refine ⟨m', ?_, h.1⟩
    unfold wAns
    rw [m_X8_why_j52, h.2.1, if_pos (nI_le h1 (by omega))]
    by_cases q : nI l.length ≤ v2
    · rw [if_pos q, if_pos q]; rfl
    · obtain ⟨j, hj, rfl⟩ := vp_of (by omega) hv q
      rw [if_neg q, if_neg q, zRd_n (by omega) (by decide), h.2.2.1.1 j hj, nI_cl (by omega)]; rfl
  intro d
  induction d with
  | zero =>
    intro p f l m' v3 v4 hp hf h
    have hlen := wOk_len h.2.2.2
    exact fin p f l m' v3 v4 (by omega) (by omega) (by omega) h
  | succ d ih =>
    intro p f l m' v3 v4 hp hf h
    obtain ⟨f, rfl⟩ : ∃ g, f = g + 1 := ⟨f - 1, by omega⟩
    unfold wLp
    by_cases q : p < l.length
    · rw [if_pos q]
      obtain ⟨a1, a2, a3, a4, a5⟩ := q_step (n := n) (f := f) (v2 := v2) hw he h q
      rw [a4]
      exact ih (p + 1) f _ a3 a1 a2 (by omega) (by omega) a5
    · rw [if_neg q]
      exact fin p (f + 1) l m' v3 v4 (by omega) (by omega) (by omega) h
theorem q_explain {n a : Nat} (hn : 100 ≤ n) {m : zS} {e : Nat → Int32} {v2 : Int32} (hv : ¬ v2 < 0) (hw : zWf (m 1) (m 2) (m 3)) (he : ∀ k, k < 16 → m 11 k = e k) (ha : a < 16) : ∃ m', m_X8_why_j52 n n v2 1 ((1 : Int32) <<< (nI a &&& 31)) 0 (zU m 15 0 (nI a)) = some (wAns (wLp (m 1) (m 2) (m 3) e 16 0 [a]) v2, m') ∧ ∀ c, c ≠ 15 → m' c = m c := by
  have h0 : mSt m [] m 0 0 := ⟨fun c _ => rfl, rfl, ⟨fun p hp => absurd hp (Nat.not_lt_zero p), fun j hj => by rw [b_0]; rfl⟩, List.nodup_nil, fun k hk => absurd hk List.not_mem_nil⟩
  have h1 := (mSt_new h0 ha List.not_mem_nil).2
  rw [zero_or] at h1
  exact q_rows (n := n) hv hw he 16 0 n [a] _ _ _ (by omega) (by omega) h1
end PWq
end
section
section PBs
/-! a bracket is set -/
theorem p_isAt {n c p t : Nat} {s : zS} (h : s 10 2 = nI c) (hb : zBb (s 11) (s 12) c) (hp : p ≤ c) (ht : t ≤ 1000000) : m_X1_isAt n (nI p) (nI t) s = some (if p < c ∧ zN (s 11 p) = t then 1 else 0, s) := by
  have hc := hb.1
  unfold m_X1_isAt
  rw [h]
  by_cases q : p < c
  · obtain ⟨⟨k1, k2⟩, _⟩ := zBb_n hb q
    rw [if_neg (nI_ge q (by omega)), p_at (by decide), zBd_e, a5 (by omega)]
    generalize zN (s 11 p) = u at k1 k2 ⊢
    rw [k2]
    by_cases e : u = t
    · rw [if_pos (by rw [e]), if_pos ⟨q, e⟩]; rfl
    · rw [if_neg (fun x => e ((eq_n (by omega) (by omega)).mp x)), if_neg (fun x => e x.2)]; rfl
  · rw [if_pos (nI_le (by omega) (by omega)), if_neg (fun x => q x.1)]; rfl
theorem p_placeFor {n c t : Nat} (hn : 100 ≤ n) {s : zS} (h : s 10 2 = nI c) (hb : zBb (s 11) (s 12) c) (ht : t ≤ 1000000) : ∃ p, p ≤ c ∧ m_X1_placeFor n (nI t) s = some (nI p, s) ∧ (∀ i, i < p → zN (s 11 i) < t) ∧ (p < c → t ≤ zN (s 11 p)) := by
  have hc := hb.1
  have key : ∀ d i f, i + d = c → d < f → (∀ j, j < i → zN (s 11 j) < t) → ∃ p, p ≤ c ∧ m_X1_placeFor_j2 n f (nI t) (nI i) s = some (nI p, s) ∧ (∀ i, i < p → zN (s 11 i) < t) ∧ (p < c → t ≤ zN (s 11 p)) := by
    intro d
    induction d with
    | zero =>
      intro i f hi hf hj
      obtain ⟨f, rfl⟩ : ∃ g, f = g + 1 := ⟨f - 1, by omega⟩
      refine ⟨i, by omega, ?_, hj, fun q => absurd q (by omega)⟩
      rw [m_X1_placeFor_j2, h, if_pos (nI_le (by omega) (by omega))]; rfl
    | succ d ih =>
      intro i f hi hf hj
      obtain ⟨f, rfl⟩ : ∃ g, f = g + 1 := ⟨f - 1, by omega⟩
      obtain ⟨⟨k1, k2⟩, _⟩ := zBb_n hb (show i < c by omega)
      rw [m_X1_placeFor_j2, h, if_neg (nI_ge (by omega) (by omega)), p_at (by decide), zBd_e, a5 (by omega)]
      by_cases q : t ≤ zN (s 11 i)
      · refine ⟨i, by omega, ?_, hj, fun _ => q⟩
        rw [if_pos (by rw [k2]; exact nI_le q (by omega))]; rfl
      · rw [if_neg (by rw [k2]; exact nI_ge (by omega) (by omega)), zLt_e, nI_s]
        exact ih (i + 1) f (by omega) (by omega) (fun j hj2 => by
          by_cases e : j = i
          · rw [e]; omega
          · exact hj j (by omega))
  exact key c 0 n (by omega) (by omega) (fun j hj => absurd hj (Nat.not_lt_zero j))
/-- places from p on moved by one -/
def sh (p : Nat) : Nat → (Nat → Int32) → (Nat → Int32)
  | 0, A => A
  | d + 1, A => sh p d (upd A (p + d + 1) (A (p + d)))
theorem sh_i {p : Nat} : ∀ d (A : Nat → Int32) i, sh p d A i = if p < i ∧ i ≤ p + d then A (i - 1) else A i := by
  intro d
  induction d with
  | zero => intro A i; rw [if_neg (by omega)]; rfl
  | succ d ih =>
    intro A i
    show sh p d _ i = _
    rw [ih]
    by_cases q1 : p < i ∧ i ≤ p + d
    · rw [if_pos q1, if_pos (by omega), upd_n (by omega)]
    · rw [if_neg q1]
      by_cases q2 : i = p + d + 1
      · rw [q2, upd_s, if_pos (by omega)]; rfl
      · rw [upd_n q2, if_neg (by omega)]
def shN (p : Nat) (t : Int32) (d : Nat) (A : Nat → Int32) : Nat → Int32 := upd (sh p d A) p t
theorem p_shift {n c p t r : Nat} {s : zS} (hc : c < 5) : ∀ d f (s : zS), p + d ≤ c → d < f → s 10 2 = nI c → ∃ s', m_X1_set_j23 n f (nI t) (nI r) (nI p) (nI (p + d) - 1) s = some (0, s') ∧ s' 11 = shN p (nI t) d (s 11) ∧ s' 12 = shN p (nI r) d (s 12) ∧ s' 10 = upd (s 10) 2 (nI (c + 1)) ∧ ∀ k, k ≠ 10 → k ≠ 11 → k ≠ 12 → s' k = s k := by
  intro d
  induction d with
  | zero =>
    intro f s hp hf h
    obtain ⟨f, rfl⟩ : ∃ g, f = g + 1 := ⟨f - 1, by omega⟩
    refine ⟨zU (zU (zU s 11 p (nI t)) 10 2 (nI (c + 1))) 12 p (nI r), ?_, ?_, ?_, ?_, fun k h1 h2 h3 => ?_⟩
    · have hlt : nI (p + 0) - (1 : Int32) < nI p := by
        rw [Nat.add_zero, Int32.lt_iff_toInt_lt, show (1 : Int32) = nI 1 from rfl, pk_sub_toInt (by omega) (by omega), nI_toInt (by omega)]
        omega
      rw [m_X1_set_j23, if_pos hlt, p_put (by omega) (by decide), zBd_e, zLt_e, zU_ne (a := 10) (k := 11) (by decide), h, nI_s, p_put (by omega) (by decide), zBd_e]; rfl
    · rw [zU_ne (by decide), zU_ne (by decide), zU_k]; rfl
    · rw [zU_k, zU_ne (by decide), zU_ne (by decide)]; rfl
    · rw [zU_ne (by decide), zU_k, zU_ne (by decide)]
    · rw [zU_ne h3, zU_ne h1, zU_ne h2]
  | succ d ih =>
    intro f s hp hf h
    obtain ⟨f, rfl⟩ : ∃ g, f = g + 1 := ⟨f - 1, by omega⟩
    rw [m_X1_set_j23, show nI (p + (d + 1)) - (1 : Int32) = nI (p + d) from nI_pred _, if_neg (nI_nlt (by omega) (by omega)), p_at (by decide), zBd_e, a5 (by omega), nI_s, p_put (by omega) (by decide), zBd_e, p_at (by decide), zBd_e, a5 (by omega), zU_ne (a := 12) (k := 11) (by decide), p_put (by omega) (by decide), zBd_e, zLt_e, ← Int32.sub_eq_add_neg]
    obtain ⟨s', r1, r2, r3, r4, r5⟩ := ih f (zU (zU s 11 (p + d + 1) (s 11 (p + d))) 12 (p + d + 1) (s 12 (p + d))) (by omega) (by omega) (by rw [zU_ne (by decide), zU_ne (by decide)]; exact h)
    rw [zU_ne (a := 11) (k := 12) (by decide), zU_k] at r2
    rw [zU_k, zU_ne (a := 12) (k := 11) (by decide)] at r3
    rw [zU_ne (a := 10) (k := 12) (by decide), zU_ne (a := 10) (k := 11) (by decide)] at r4
    exact ⟨s', r1, r2, r3, r4, fun k h1 h2 h3 => by rw [r5 k h1 h2 h3, zU_ne h3, zU_ne h2]⟩
/-- the lists of brackets -/
theorem zLs_ins {A B : Nat → Int32} {p t r : Nat} (ht : t ≤ 1000000) (hr : r ≤ 1000) : ∀ d, (zLs (shN p (nI t) d A) (shN p (nI r) d B) (p + d + 1)).Perm ((t, r) :: zLs A B (p + d)) := by
  have g : ∀ (C : Nat → Int32) (v : Int32) d i, shN p v d C i = if i < p then C i else if i = p then v else if i ≤ p + d then C (i - 1) else C i := by
    intro C v d i
    unfold shN
    by_cases q : i = p
    · rw [q, upd_s, if_neg (by omega), if_pos rfl]
    · rw [upd_n q, sh_i]
      by_cases q2 : i < p
      · rw [if_neg (by omega), if_pos q2]
      · rw [if_neg q2, if_neg q]
        by_cases q3 : i ≤ p + d
        · rw [if_pos (by omega), if_pos q3]
        · rw [if_neg (by omega), if_neg q3]
  intro d
  induction d with
  | zero =>
    rw [zLs_s, Nat.add_zero, g, g, if_neg (by omega), if_pos rfl, if_neg (by omega), if_pos rfl, zN_n (by omega), zN_n (by omega)]
    rw [zLs_c (A' := A) (B' := B) (fun i hi => by rw [g, g, if_pos hi, if_pos hi]; exact ⟨rfl, rfl⟩)]
    exact List.perm_append_singleton _ _
  | succ d ih =>
    have e1 : zLs (shN p (nI t) (d + 1) A) (shN p (nI r) (d + 1) B) (p + (d + 1) + 1) = zLs (shN p (nI t) d A) (shN p (nI r) d B) (p + d + 1) ++ [(zN (A (p + d)), zN (B (p + d)))] := by
      refine (zLs_s (c := p + d + 1)).trans ?_
      rw [g, g, if_neg (by omega), if_neg (by omega), if_pos (by omega), if_neg (by omega), if_neg (by omega), if_pos (by omega)]
      rw [zLs_c (A' := shN p (nI t) d A) (B' := shN p (nI r) d B) (fun i hi => by
        rw [g, g, g, g]
        by_cases q1 : i < p
        · rw [if_pos q1, if_pos q1, if_pos q1, if_pos q1]; exact ⟨rfl, rfl⟩
        · rw [if_neg q1, if_neg q1, if_neg q1, if_neg q1]
          by_cases q2 : i = p
          · rw [if_pos q2, if_pos q2, if_pos q2, if_pos q2]; exact ⟨rfl, rfl⟩
          · rw [if_neg q2, if_neg q2, if_neg q2, if_neg q2, if_pos (by omega), if_pos (by omega), if_pos (by omega), if_pos (by omega)]; exact ⟨rfl, rfl⟩)]
      rfl
    have e2 : zLs A B (p + (d + 1)) = zLs A B (p + d) ++ [(zN (A (p + d)), zN (B (p + d)))] := zLs_s (c := p + d)
    rw [e1, e2]
    exact List.Perm.append_right _ ih
theorem shN_i {C : Nat → Int32} {p : Nat} {v : Int32} {d i : Nat} : shN p v d C i = if i < p then C i else if i = p then v else if i ≤ p + d then C (i - 1) else C i := by
  unfold shN
  by_cases q : i = p
  · rw [q, upd_s, if_neg (by omega), if_pos rfl]
  · rw [upd_n q, sh_i]
    by_cases q2 : i < p
    · rw [if_neg (by omega), if_pos q2]
    · rw [if_neg q2, if_neg q]
      by_cases q3 : i ≤ p + d
      · rw [if_pos (by omega), if_pos q3]
      · rw [if_neg (by omega), if_neg q3]
theorem ins_sorted {A B : Nat → Int32} {p c t : Nat} (hs : zSo2 A c) (hp : p ≤ c) (ht : t ≤ 1000000) (h1 : ∀ i, i < p → zN (A i) < t) (h2 : p < c → t < zN (A p)) : zSo2 (shN p (nI t) (c - p) A) (c + 1) := by
  have h3 : ∀ i, p ≤ i → i < c → t < zN (A i) := by
    intro i hi hic
    by_cases q : i = p
    · rw [q]; exact h2 (by omega)
    · have := hs p i (by omega) hic
      have := h2 (by omega)
      omega
  intro i j hij hj
  rw [shN_i, shN_i]
  by_cases q1 : i < p
  · rw [if_pos q1]
    by_cases q2 : j < p
    · rw [if_pos q2]; exact hs i j hij (by omega)
    · rw [if_neg q2]
      by_cases q3 : j = p
      · rw [if_pos q3, zN_n (by omega)]; exact h1 i q1
      · rw [if_neg q3, if_pos (by omega)]; exact hs i (j - 1) (by omega) (by omega)
  · rw [if_neg q1, if_neg (show ¬ j < p by omega), if_neg (show ¬ j = p by omega), if_pos (show j ≤ p + (c - p) by omega)]
    by_cases q3 : i = p
    · rw [if_pos q3, zN_n (by omega)]; exact h3 (j - 1) (by omega) (by omega)
    · rw [if_neg q3, if_pos (by omega)]; exact hs (i - 1) (j - 1) (by omega) (by omega)
theorem ins_bb {A B : Nat → Int32} {p c t r : Nat} (hb : zBb A B c) (hc : c < 5) (hp : p ≤ c) (ht : t ≤ 1000000) (hr : r ≤ 1000) : zBb (shN p (nI t) (c - p) A) (shN p (nI r) (c - p) B) (c + 1) := by
  refine ⟨by omega, fun i hi => ?_⟩
  rw [shN_i, shN_i]
  by_cases q1 : i < p
  · rw [if_pos q1, if_pos q1]; exact hb.2 i (by omega)
  · rw [if_neg q1, if_neg q1]
    by_cases q2 : i = p
    · rw [if_pos q2, if_pos q2]; exact ⟨⟨t, ht, rfl⟩, r, hr, rfl⟩
    · rw [if_neg q2, if_neg q2, if_pos (by omega), if_pos (by omega)]; exact hb.2 (i - 1) (by omega)
theorem zLs_map {A B : Nat → Int32} {a c t r : Nat} (hr : r ≤ 1000) (ha : zN (A a) = t) (hu : ∀ i, i < c → zN (A i) = t → i = a) : zLs A (upd B a (nI r)) c = (zLs A B c).map (fun q => if q.1 = t then (t, r) else q) := by
  unfold zLs
  rw [List.map_map]
  refine List.map_congr_left (fun i hi => ?_)
  show (zN (A i), zN (upd B a (nI r) i)) = if zN (A i) = t then (t, r) else (zN (A i), zN (B i))
  by_cases q : i = a
  · rw [q, ha, if_pos rfl, upd_s, zN_n (by omega)]
  · rw [if_neg (fun e => q (hu i (List.mem_range.mp hi) e)), upd_n q]
theorem zLs_mem {A B : Nat → Int32} {c t : Nat} : (∃ i, i < c ∧ zN (A i) = t) ↔ ∃ q, q ∈ zLs A B c ∧ q.1 = t := by
  constructor
  · rintro ⟨i, hi, e⟩
    exact ⟨(zN (A i), zN (B i)), List.mem_map.mpr ⟨i, List.mem_range.mpr hi, rfl⟩, e⟩
  · rintro ⟨q, hq, e⟩
    obtain ⟨i, hi, rfl⟩ := List.mem_map.mp hq
    exact ⟨i, List.mem_range.mp hi, e⟩
theorem perm_th {A B A' B' : Nat → Int32} {c t : Nat} (h : (zLs A B c).Perm (zLs A' B' c)) : (∃ i, i < c ∧ zN (A i) = t) ↔ ∃ i, i < c ∧ zN (A' i) = t := by
  rw [zLs_mem (B := B), zLs_mem (B := B')]
  exact ⟨fun ⟨q, a, b⟩ => ⟨q, h.mem_iff.mp a, b⟩, fun ⟨q, a, b⟩ => ⟨q, h.mem_iff.mpr a, b⟩⟩
/-- the reference's search -/
theorem q_find {n c t : Nat} (hn : 100 ≤ n) {s : zS} (v2 : Int32) (h : s 0 4 = nI c) (hc : c ≤ 5) : ∃ a, ((a < c ∧ s 5 a = nI t) ∨ (a = c ∧ ∀ k, k < c → ¬ s 5 k = nI t)) ∧ m_X8_bracket_j47 n n (nI t) v2 (nI c) 0 s = if nI a = (5 : Int32) then m_X8_bracket_j91 n (nI t) v2 (nI a) 2 s else m_X8_bracket_j91 n (nI t) v2 (nI a) 0 s := by
  obtain ⟨v, f1, hf1, ⟨a, ea, hI⟩, e1⟩ := for_up (fun f k (v : Int32) => m_X8_bracket_j47 n f (nI t) v2 v (nI k) s) (fun k v => ∃ a, v = nI a ∧ ((a < k ∧ s 5 a = nI t) ∨ (a = c ∧ ∀ j, j < k → ¬ s 5 j = nI t))) c (by
    rintro f k v hk ⟨a, rfl, hI⟩
    by_cases q : s 5 k = nI t
    · refine ⟨nI k, ⟨k, rfl, Or.inl ⟨by omega, q⟩⟩, ?_⟩
      show m_X8_bracket_j47 n (f + 1) (nI t) v2 (nI a) (nI k) s = m_X8_bracket_j47 n f (nI t) v2 (nI k) (nI (k + 1)) s
      rw [m_X8_bracket_j47, h, if_neg (nI_ge hk (by omega)), zRd_n (by omega) (by decide), if_pos q, zLt_e, nI_s]
    · refine ⟨nI a, ⟨a, rfl, ?_⟩, ?_⟩
      · rcases hI with ⟨i1, i2⟩ | ⟨i1, i2⟩
        · exact Or.inl ⟨by omega, i2⟩
        · refine Or.inr ⟨i1, fun j hj => ?_⟩
          by_cases e : j = k
          · rw [e]; exact q
          · exact i2 j (by omega)
      · show m_X8_bracket_j47 n (f + 1) (nI t) v2 (nI a) (nI k) s = m_X8_bracket_j47 n f (nI t) v2 (nI a) (nI (k + 1)) s
        rw [m_X8_bracket_j47, h, if_neg (nI_ge hk (by omega)), zRd_n (by omega) (by decide), if_neg q, zLt_e, nI_s]) c n 0 (nI c) (by omega) (by omega) ⟨c, rfl, Or.inr ⟨rfl, fun j hj => absurd hj (Nat.not_lt_zero j)⟩⟩
  obtain ⟨f1, rfl⟩ : ∃ g, f1 = g + 1 := ⟨f1 - 1, by omega⟩
  refine ⟨a, hI, ?_⟩
  refine (show _ = _ from e1).trans ?_
  show m_X8_bracket_j47 n (f1 + 1) (nI t) v2 v (nI c) s = _
  rw [m_X8_bracket_j47, h, if_pos (nI_le (Nat.le_refl _) (by omega)), ea]
end PBs
end
section
section PIv
/-! what stands between two calls -/
def zAl (K F G : Nat → Int32) : Prop := ∀ i, i < 16 → zR K F G i i = true → ∃ v L, zCir (zR K F G) i v ∧ zCG K F G v L
def zI1 (x m : zS) : Prop := x 2 = m 1 ∧ x 3 = m 2 ∧ x 4 = m 3 ∧ x 5 = m 4
def zI2 (x : zS) : Prop := zPn (x 2) (x 3) (x 4) (zo x) ∧ (∀ p, p < 16 → x 9 p = nI (zo x p)) ∧ (∀ i, i < 16 → ∀ j, j < 32 → bt (x 7 i) j = zR (x 2) (x 3) (x 4) i j) ∧ (∀ i, i < 16 → ∀ j, j < 32 → bt (x 8 i) j = zGr (zR (x 2) (x 3) (x 4)) i j) ∧ zAl (x 2) (x 3) (x 4) ∧ ∀ k, k < 16 → ∃ a, a ≤ 1000000 ∧ x 5 k = nI a
def zDs (A : Nat → Int32) (c : Nat) : Prop := ∀ i j, i < c → j < c → zN (A i) = zN (A j) → i = j
def zI3 (x m : zS) : Prop := ∃ c, x 10 2 = nI c ∧ m 0 4 = nI c ∧ zBb (x 11) (x 12) c ∧ zBb (m 5) (m 6) c ∧ zSo2 (x 11) c ∧ zDs (m 5) c ∧ (zLs (x 11) (x 12) c).Perm (zLs (m 5) (m 6) c)
def zI4 (y : Nat) (x m : zS) : Prop := (∃ c, c ≤ 8 ∧ x 13 2 = nI c ∧ m 0 8 = nI c) ∧ (∃ u, u ≤ y ∧ x 13 3 = nI u ∧ m 0 7 = nI u) ∧ x 14 = m 7 ∧ x 15 = m 8 ∧ ∀ i, i < 8 → ∃ a, a ≤ 1000000 ∧ x 14 i = nI a
def zI5 (x m : zS) : Prop := (∃ c, c ≤ 5 ∧ x 16 4 = nI c ∧ m 0 11 = nI c) ∧ x 17 = m 9 ∧ x 18 = m 10 ∧ x 20 = m 18 ∧ ∀ i, i < 5 → ∃ a, a ≤ 1000000 ∧ x 17 i = nI a
def zI6 (x : zS) : Prop := (∀ k, k < 16 → zBn (x 22 k)) ∧ ∀ k, k < 16 → zBn (x 24 k)
def zI7 (m : zS) : Prop := (∀ i, i < 32 → zBn (m 11 i)) ∧ ∀ i, i < 32 → m 12 i = 0 ∨ m 12 i = 1
def zInv (y : Nat) (x m : zS) : Prop := zI1 x m ∧ zI2 x ∧ zI3 x m ∧ zI4 y x m ∧ zI5 x m ∧ zI6 x ∧ zI7 m
theorem zo_c {x x' : zS} (h : x' 9 = x 9) : zo x' = zo x := by
  funext p
  unfold zo
  rw [h]
theorem zI1_c {x m x' m' : zS} (h : zI1 x m) (h2 : x' 2 = x 2) (h3 : x' 3 = x 3) (h4 : x' 4 = x 4) (h5 : x' 5 = x 5) (k1 : m' 1 = m 1) (k2 : m' 2 = m 2) (k3 : m' 3 = m 3) (k4 : m' 4 = m 4) : zI1 x' m' := by
  unfold zI1
  rw [h2, h3, h4, h5, k1, k2, k3, k4]
  exact h
theorem zI2_c {x x' : zS} (h : zI2 x) (h2 : x' 2 = x 2) (h3 : x' 3 = x 3) (h4 : x' 4 = x 4) (h5 : x' 5 = x 5) (h7 : x' 7 = x 7) (h8 : x' 8 = x 8) (h9 : x' 9 = x 9) : zI2 x' := by
  unfold zI2
  rw [zo_c h9, h2, h3, h4, h5, h7, h8, h9]
  exact h
theorem zI3_c {x m x' m' : zS} (h : zI3 x m) (h2 : x' 10 2 = x 10 2) (h3 : x' 11 = x 11) (h4 : x' 12 = x 12) (k1 : m' 0 4 = m 0 4) (k2 : m' 5 = m 5) (k3 : m' 6 = m 6) : zI3 x' m' := by
  unfold zI3
  rw [h2, h3, h4, k1, k2, k3]
  exact h
theorem zI4_c {y : Nat} {x m x' m' : zS} (h : zI4 y x m) (h2 : x' 13 = x 13) (h3 : x' 14 = x 14) (h4 : x' 15 = x 15) (k1 : m' 0 7 = m 0 7) (k4 : m' 0 8 = m 0 8) (k2 : m' 7 = m 7) (k3 : m' 8 = m 8) : zI4 y x' m' := by
  unfold zI4
  rw [h2, h3, h4, k1, k2, k3, k4]
  exact h
theorem zI5_c {x m x' m' : zS} (h : zI5 x m) (h2 : x' 16 = x 16) (h3 : x' 17 = x 17) (h4 : x' 18 = x 18) (h5 : x' 20 = x 20) (k1 : m' 0 11 = m 0 11) (k2 : m' 9 = m 9) (k3 : m' 10 = m 10) (k4 : m' 18 = m 18) : zI5 x' m' := by
  unfold zI5
  rw [h2, h3, h4, h5, k1, k2, k3, k4]
  exact h
theorem zI6_c {x x' : zS} (h : zI6 x) (h2 : x' 22 = x 22) (h3 : x' 24 = x 24) : zI6 x' := by
  unfold zI6
  rw [h2, h3]
  exact h
theorem zI7_c {x x' : zS} (h : zI7 x) (h2 : x' 11 = x 11) (h3 : x' 12 = x 12) : zI7 x' := by
  unfold zI7
  rw [h2, h3]
  exact h
theorem zInv_c {y : Nat} {x m x' m' : zS} (h : zInv y x m) (hx : ∀ c, c ≠ 6 → c ≠ 19 → c < 21 → x' c = x c) (h6 : zI6 x') (hm : ∀ c, 1 ≤ c → c ≤ 10 → m' c = m c) (hm18 : m' 18 = m 18) (hm0 : ∀ j, j ≠ 22 → j ≠ 23 → m' 0 j = m 0 j) (h7 : zI7 m') : zInv y x' m' := by
  obtain ⟨i1, i2, i3, i4, i5, _, _⟩ := h
  have X : ∀ c, c < 21 → c ≠ 6 → c ≠ 19 → x' c = x c := fun c a b d => hx c b d a
  have M : ∀ c, 1 ≤ c → c ≤ 10 → m' c = m c := hm
  exact ⟨zI1_c i1 (X 2 (by decide) (by decide) (by decide)) (X 3 (by decide) (by decide) (by decide)) (X 4 (by decide) (by decide) (by decide)) (X 5 (by decide) (by decide) (by decide)) (M 1 (by decide) (by decide)) (M 2 (by decide) (by decide)) (M 3 (by decide) (by decide)) (M 4 (by decide) (by decide)),
    zI2_c i2 (X 2 (by decide) (by decide) (by decide)) (X 3 (by decide) (by decide) (by decide)) (X 4 (by decide) (by decide) (by decide)) (X 5 (by decide) (by decide) (by decide)) (X 7 (by decide) (by decide) (by decide)) (X 8 (by decide) (by decide) (by decide)) (X 9 (by decide) (by decide) (by decide)),
    zI3_c i3 (by rw [X 10 (by decide) (by decide) (by decide)]) (X 11 (by decide) (by decide) (by decide)) (X 12 (by decide) (by decide) (by decide)) (hm0 4 (by decide) (by decide)) (M 5 (by decide) (by decide)) (M 6 (by decide) (by decide)),
    zI4_c i4 (X 13 (by decide) (by decide) (by decide)) (X 14 (by decide) (by decide) (by decide)) (X 15 (by decide) (by decide) (by decide)) (hm0 7 (by decide) (by decide)) (hm0 8 (by decide) (by decide)) (M 7 (by decide) (by decide)) (M 8 (by decide) (by decide)),
    zI5_c i5 (X 16 (by decide) (by decide) (by decide)) (X 17 (by decide) (by decide) (by decide)) (X 18 (by decide) (by decide) (by decide)) (X 20 (by decide) (by decide) (by decide)) (hm0 11 (by decide) (by decide)) (M 9 (by decide) (by decide)) (M 10 (by decide) (by decide)) hm18, h6, h7⟩
theorem zInv_x {y : Nat} {x m x' : zS} (h : zInv y x m) (hx : ∀ c, c ≠ 6 → c ≠ 19 → c < 21 → x' c = x c) (h6 : zI6 x') : zInv y x' m := zInv_c h hx h6 (fun _ _ _ => rfl) rfl (fun _ _ _ => rfl) h.2.2.2.2.2.2
theorem zInv_m {y : Nat} {x m m' : zS} (h : zInv y x m) (hm : ∀ c, 1 ≤ c → c ≤ 10 → m' c = m c) (hm18 : m' 18 = m 18) (hm0 : ∀ j, j ≠ 22 → j ≠ 23 → m' 0 j = m 0 j) (h7 : zI7 m') : zInv y x m' := zInv_c h (fun _ _ _ _ => rfl) h.2.2.2.2.2.1 hm hm18 hm0 h7
theorem zInv_t {y : Nat} {x m : zS} (h : zInv y x m) (v : Int32) : zInv y x (zU m 0 23 v) := zInv_m h (fun c c1 c2 => zU_ne (by omega)) (zU_ne (by decide)) (fun j j1 j2 => zU_nj j2) (zI7_c h.2.2.2.2.2.2 (zU_ne (by decide)) (zU_ne (by decide)))
theorem zInv_y {y z : Nat} {x m : zS} (h : zInv y x m) (hz : y ≤ z) : zInv z x m := by
  obtain ⟨i1, i2, i3, ⟨a, ⟨u, u1, u2⟩, b⟩, i5, i6, i7⟩ := h
  exact ⟨i1, i2, i3, ⟨a, ⟨u, by omega, u2⟩, b⟩, i5, i6, i7⟩
theorem inv_tt {n y : Nat} (hn : 100 ≤ n) {x m : zS} (h : zInv y x m) : ∃ tx tot, zVs n x tx tot ∧ zVr n m (zo x) tx tot := by
  obtain ⟨⟨j2, j3, j4, j5⟩, ⟨k1, k2, k3, k4, k5, k6⟩, ⟨c, c1, c2, c3, c4, c5, c6, c7⟩, ⟨⟨d, d1, d2, d3⟩, u, t14, t15, tb⟩, i5, i6, i7⟩ := h
  have hsum : zBn (zSm (x 14) d) := by
    obtain ⟨a, a1, a2⟩ := zSm_bn (f := x 14) (b := 1000000) d (fun i hi => tb i (by omega))
    exact ⟨a, by have : d * 1000000 ≤ 8 * 1000000 := Nat.mul_le_mul_right _ d1; omega, a2⟩
  have htx : ∀ v, zBn v → zBn (nI (zTaxL (zLs (x 11) (x 12) c) (zLs (x 11) (x 12) c) (zN v))) := by
    rintro v ⟨a, ha, rfl⟩
    have := tax_le (x := zN (nI a)) c5 c3
    rw [zN_n (by omega)] at this ⊢
    exact ⟨_, by omega, rfl⟩
  refine ⟨fun v => nI (zTaxL (zLs (x 11) (x 12) c) (zLs (x 11) (x 12) c) (zN v)), zSm (x 14) d, ⟨k1, k2, k3, k4, ?_, ?_, htx, hsum, k6⟩, ⟨?_, ?_, ?_, htx, hsum, ?_⟩⟩
  · rintro s' e1 e2 e3 v ⟨a, ha, rfl⟩
    have := p_tax (n := n) (s := s') (c := c) (x := a) hn (by rw [e1]; exact c1) (by rw [e2, e3]; exact c3) (by rw [e2]; exact c5) ha
    rw [e2, e3] at this
    rw [this]
    show _ = some (nI (zTaxL (zLs (x 11) (x 12) c) (zLs (x 11) (x 12) c) (zN (nI a))), s')
    rw [zN_n (by omega)]
  · intro s' e1 e2
    have := p_total (n := n) (s := s') (c := d) hn d1 (by rw [e1]; exact d2)
    rw [this, e2]
  · rw [← j2, ← j3, ← j4]; exact k1
  · rintro s' e1 e2 e3 v ⟨a, ha, rfl⟩
    have := q_taxed (n := n) (s := s') (c := c) (x := a) hn (by rw [e1]; exact c2) (by rw [e2, e3]; exact c4) ha
    rw [e2, e3] at this
    rw [this]
    show _ = some (nI (zTaxL (zLs (x 11) (x 12) c) (zLs (x 11) (x 12) c) (zN (nI a))), s')
    rw [zN_n (by omega), zTaxL_p c7]
  · intro s' e1 e2
    have := q_all (n := n) (s := s') (c := d) hn d1 (by rw [e1]; exact d3)
    rw [this, e2, t14]
  · intro k hk
    obtain ⟨a, ha, e⟩ := k6 k hk
    exact ⟨a, by omega, by rw [← j5]; exact e⟩
def zXe (x : zS) (e : Nat → Int32) : zS := zSt (zU x 21 5 (-1)) 22 e
theorem zXe_n {x : zS} {e : Nat → Int32} {c : Nat} (h1 : c ≠ 21) (h2 : c ≠ 22) : zXe x e c = x c := by
  unfold zXe
  rw [zSt_n h2, zU_ne h1]
theorem zXe_e {x : zS} {e : Nat → Int32} : zXe x e 22 = e := by unfold zXe; rw [zSt_s]
theorem zXe_r {x : zS} {e : Nat → Int32} : zXe x e 21 5 = -1 := by unfold zXe; rw [zSt_n (by decide), zU_eq]
theorem zXe_i {y : Nat} {x m : zS} {e : Nat → Int32} (h : zInv y x m) (he : ∀ k, k < 16 → zBn (e k)) : zInv y (zXe x e) m := zInv_x h (fun c c1 c2 c3 => zXe_n (by omega) (by omega)) ⟨by rw [zXe_e]; exact he, by rw [zXe_n (by decide) (by decide)]; exact h.2.2.2.2.2.1.2⟩
theorem zS2_i7 {y : Nat} {x m : zS} {e w : Nat → Int32} (h : zInv y x m) (he : ∀ k, k < 32 → zBn (e k)) (hw : ∀ i, i < 32 → w i = 0 ∨ w i = 1) : zInv y x (zS2 m e w) := zInv_m h (fun c c1 c2 => zS2_n (by omega) (by omega)) (zS2_n (by decide) (by decide)) (fun j _ _ => by rw [zS2_n (by decide) (by decide)]) ⟨by rw [zS2_v]; exact he, by rw [zS2_w]; exact hw⟩
/-- all values are worked out, and both have the same -/
theorem inv_work {n y : Nat} (hn : 100 ≤ n) {x m : zS} (h : zInv y x m) : ∃ e e' w, m_X6_workOut n (-1) x = some (0, zXe x e) ∧ m_X8_solves n (-1) 0 m = some (0, zS2 m e' w) ∧ zInv y (zXe x e) (zS2 m e' w) ∧ (∀ k, k < 16 → e' k = e k) ∧ ∀ k, k < 16 → zBn (e k) := by
  obtain ⟨tx, tot, hV, hR⟩ := inv_tt hn h
  obtain ⟨⟨j2, j3, j4, j5⟩, _, _, _, _, i6, i7⟩ := id h
  obtain ⟨e, w1, w2, w3⟩ := p_workOut hn (-1) hV i6.1
  obtain ⟨e', w, q1, q2, q3, q4⟩ := q_solves (fx := -1) (its := 0) hn hR i7.1 i7.2 (fun k hk q => absurd q (zn_L hk)) zBn_0
  rw [zAn_m] at w3
  refine ⟨e, e', w, w1, q1, zS2_i7 (zXe_i h w2) q2 q3, fun k hk => ?_, w2⟩
  have := q4 (fun _ => True) e (by rw [← j2, ← j3, ← j4, ← j5]; exact v_all (its := 0) hV.1 w2 w3) k hk trivial
  exact this
end PIv
end
section
section PLg
/-! the law's cases, once for all -/
def hG (ks : List (Nat × Int32)) (s : zS) (k : Nat) (s2 : zS) : Option (Int32 × zS) := match ks with
  | [] => none
  | q :: r => if k = q.1 then zRt q.2 (zMix 0 27 s s2) else hG r s k s2
def zCall (y : Nat) (ks : List (Nat × Int32)) (rx : Option ((Int32 ⊕ Nat) × zS)) (rm : Option (Int32 × zS)) : Prop := (∃ v x' m', rx = some (.inl v, x') ∧ rm = some (v, m') ∧ m' 0 23 = 0 ∧ zInv y x' m') ∨ ∃ k b w x' m', (∀ s s2, hG ks s k s2 = zRt b (zMix 0 27 s s2)) ∧ b ≠ 0 ∧ rx = some (.inr k, x') ∧ rm = some (w, m') ∧ m' 0 23 = b ∧ zInv y x' m'
def zJ (y : Nat) (s : zS) : Prop := zInv y (zSo s 0) (zSo s 27)
theorem zInv_e {y : Nat} {x m x' m' : zS} (h : zInv y x m) (hx : ∀ c, c < 27 → x' c = x c) (hm : ∀ c, c < 19 → m' c = m c) : zInv y x' m' := zInv_c h (fun c _ _ c3 => hx c (by omega)) (zI6_c h.2.2.2.2.2.1 (hx 22 (by decide)) (hx 24 (by decide))) (fun c _ c2 => hm c (by omega)) (hm 18 (by decide)) (fun j _ _ => by rw [hm 0 (by decide)]) (zI7_c h.2.2.2.2.2.2 (hm 11 (by decide)) (hm 12 (by decide)))
theorem zMix_so {o n : Nat} {σ : zS} : zMix o n σ (zSo σ o) = σ := by
  funext k
  unfold zMix zSo
  by_cases q : o ≤ k ∧ k < o + n
  · rw [if_pos q, show k - o + o = k by omega]
  · rw [if_neg q]
theorem zMx_x {s t : zS} {c : Nat} (h : c < 27) : zSo (zMix 0 27 s t) 0 c = t c := by
  show (if 0 ≤ c + 0 ∧ c + 0 < 0 + 27 then t (c + 0 - 0) else s (c + 0)) = t c
  rw [if_pos (by omega)]; rfl
theorem zMx_m {s t : zS} {c : Nat} : zSo (zMix 0 27 s t) 27 c = zSo s 27 c := by
  show (if 0 ≤ c + 27 ∧ c + 27 < 0 + 27 then t (c + 27 - 0) else s (c + 27)) = s (c + 27)
  rw [if_neg (by omega)]
theorem zMm_m {s t : zS} {c : Nat} (h : c < 19) : zSo (zMix 27 19 s t) 27 c = t c := by
  show (if 27 ≤ c + 27 ∧ c + 27 < 27 + 19 then t (c + 27 - 27) else s (c + 27)) = t c
  rw [if_pos (by omega), show c + 27 - 27 = c by omega]
theorem zMm_x {s t : zS} {c : Nat} (h : c < 27) : zSo (zMix 27 19 s t) 0 c = zSo s 0 c := by
  show (if 27 ≤ c + 0 ∧ c + 0 < 27 + 19 then t (c + 0 - 27) else s (c + 0)) = s (c + 0)
  rw [if_neg (by omega)]
theorem zMm_46 {s t : zS} : zMix 27 19 s t 46 = s 46 := by
  unfold zMix
  rw [if_neg (by omega)]
theorem zSo_u {s : zS} {o c j : Nat} {v : Int32} (h : c + o ≠ 46) : zSo (zU s 46 j v) o c = zSo s o c := by
  unfold zSo
  rw [zU_ne h]
theorem zHx_l {β : Type} {v : Int32} {s : zS} {g : Nat → zS → Option β} {f : Int32 → zS → Option β} : zHx (some (.inl v, s)) g f = f v s := rfl
theorem zHx_r {β : Type} {k : Nat} {s : zS} {g : Nat → zS → Option β} {f : Int32 → zS → Option β} : zHx (some (.inr k, s)) g f = g k s := rfl
theorem zWr_0 {β : Type} {σ : zS} {k : Nat} {v : Int32} {f : zS → Option β} : zWr σ k (0 : Int32) 1 v f = f (zU σ k 0 v) := zWr_n (j := 0) (by decide) (by decide)
theorem zRd_0 {β : Type} {g : Nat → Int32} {f : Int32 → Option β} : zRd g (0 : Int32) 1 f = f (g 0) := zRd_n (j := 0) (by decide) (by decide)
theorem lg_same (v : Int64) : lg_cmp v v = 0 := by
  unfold lg_cmp
  rw [if_neg (show ¬ v > v from Int64.lt_irrefl), if_pos rfl]
theorem q_thrown {n : Nat} {s : zS} : m_X8_thrown n s = some (s 0 23, s) := rfl
theorem zThr {s t : zS} : zSo (zMix 27 19 s t) 27 0 23 = t 0 23 := by rw [zMm_m (by decide)]
theorem zJ_m {y : Nat} {s t x : zS} (h : zInv y x t) (hx : ∀ c, c < 27 → zSo s 0 c = x c) : zJ y (zMix 27 19 s t) := zInv_e h (fun c hc => by rw [zMm_x hc]; exact hx c hc) (fun c hc => zMm_m hc)
theorem L_val {n y y' : Nat} {ks : List (Nat × Int32)} {rx : zS → Option ((Int32 ⊕ Nat) × zS)} {rm : zS → Option (Int32 × zS)} (C : ∀ x m, zInv y x m → zCall y' ks (rx x) (rm m)) {s : zS} (h : zJ y s) (rec : Int32 → zS → Option (Int32 × zS)) (v4 : Int32) : ∃ s', (zBd (zHx (rx (zSo s 0)) (hG ks s) fun x1 s2 => zLt (zMix 0 27 s s2) fun s3 => zWr s3 46 (0 : Int32) 1 x1 fun s4 => zRt (0 : Int32) s4) fun x26 s27 => zBd (rm (zSo s27 27)) fun x30 s31 => zLt (zMix 27 19 s27 s31) fun s32 => zBd (m_X8_thrown n (zSo s32 27)) fun x33 s34 => zLt (zMix 27 19 s32 s34) fun s35 => if x33 = x26 then (if x26 = 0 then (zRd (s35 46) (0 : Int32) 1 fun x39 => if (lg_cmp (Int32.toInt64 x39) (Int32.toInt64 x30)) = 0 then (zLt (v4 + (5 : Int32)) fun x41 => rec x41 s35) else (zRt (0 : Int32) s35)) else (zLt (v4 + (5 : Int32)) fun x38 => rec x38 s35)) else (zRt (0 : Int32) s35)) = rec (v4 + (5 : Int32)) s' ∧ zJ y' s' := by
  rcases C _ _ h with ⟨v, x', m', e1, -, -, -⟩ | ⟨k, b, w, x', m', hk, hb, e1, -, -, -⟩
  · have a1 : ∀ c, c < 27 → zSo (zU (zMix 0 27 s x') 46 0 v) 0 c = x' c := fun c hc => by rw [zSo_u (by omega), zMx_x hc]
    have a2 : ∀ c, c < 19 → zSo (zU (zMix 0 27 s x') 46 0 v) 27 c = zSo s 27 c := fun c hc => by rw [zSo_u (by omega), zMx_m]
    rw [e1, zHx_l, zLt_e, zWr_0, zBd_r]
    rcases C _ _ (zInv_e h (fun c _ => rfl) a2) with ⟨v1, x1, m1, f1, f2, f3, f4⟩ | ⟨k1, b1, w1, x1, m1, _, _, f1, _, _, _⟩
    · rw [e1] at f1
      cases f1
      rw [f2, zBd_e, zLt_e, q_thrown, zBd_e, zLt_e, zMix_so, zThr, if_pos f3, if_pos rfl, zMm_46, zRd_0, zU_eq, lg_same, if_pos rfl, zLt_e]
      exact ⟨_, rfl, zJ_m f4 a1⟩
    · rw [e1] at f1
      cases f1
  · have a1 : ∀ c, c < 27 → zSo (zMix 0 27 s x') 0 c = x' c := fun c hc => zMx_x hc
    have a2 : ∀ c, c < 19 → zSo (zMix 0 27 s x') 27 c = zSo s 27 c := fun c hc => zMx_m
    rw [e1, zHx_r, hk, zBd_r]
    rcases C _ _ (zInv_e h (fun c _ => rfl) a2) with ⟨v1, x1, m1, f1, f2, f3, f4⟩ | ⟨k1, b1, w1, x1, m1, g1, g2, f1, f2, f3, f4⟩
    · rw [e1] at f1
      cases f1
    · rw [e1] at f1
      cases f1
      have hbb : b1 = b := by
        have := (g1 s x').symm.trans (hk s x')
        exact congrArg (fun q => match q with | some (a, _) => a | none => 0) this
      rw [f2, zBd_e, zLt_e, q_thrown, zBd_e, zLt_e, zMix_so, zThr, if_pos (f3.trans hbb), if_neg hb, zLt_e]
      exact ⟨_, rfl, zJ_m f4 a1⟩
theorem L_void {n y y' : Nat} {ks : List (Nat × Int32)} {rx : zS → Option ((Int32 ⊕ Nat) × zS)} {rm : zS → Option (Int32 × zS)} (C : ∀ x m, zInv y x m → zCall y' ks (rx x) (rm m)) {s : zS} (h : zJ y s) (rec : Int32 → zS → Option (Int32 × zS)) (v4 : Int32) : ∃ s', (zBd (zHx (rx (zSo s 0)) (hG ks s) fun x1 s2 => zLt (zMix 0 27 s s2) fun s3 => zRt (0 : Int32) s3) fun x9 s10 => zBd (rm (zSo s10 27)) fun x15 s16 => zLt (zMix 27 19 s10 s16) fun s17 => zBd (m_X8_thrown n (zSo s17 27)) fun x18 s19 => zLt (zMix 27 19 s17 s19) fun s20 => if x18 = x9 then (zLt (v4 + (5 : Int32)) fun x22 => rec x22 s20) else (zRt (0 : Int32) s20)) = rec (v4 + (5 : Int32)) s' ∧ zJ y' s' := by
  rcases C _ _ h with ⟨v, x', m', e1, -, -, -⟩ | ⟨k, b, w, x', m', hk, hb, e1, -, -, -⟩
  · have a1 : ∀ c, c < 27 → zSo (zMix 0 27 s x') 0 c = x' c := fun c hc => zMx_x hc
    have a2 : ∀ c, c < 19 → zSo (zMix 0 27 s x') 27 c = zSo s 27 c := fun c hc => zMx_m
    rw [e1, zHx_l, zLt_e, zBd_r]
    rcases C _ _ (zInv_e h (fun c _ => rfl) a2) with ⟨v1, x1, m1, f1, f2, f3, f4⟩ | ⟨k1, b1, w1, x1, m1, _, _, f1, _, _, _⟩
    · rw [e1] at f1
      cases f1
      rw [f2, zBd_e, zLt_e, q_thrown, zBd_e, zLt_e, zMix_so, zThr, if_pos f3, zLt_e]
      exact ⟨_, rfl, zJ_m f4 a1⟩
    · rw [e1] at f1
      cases f1
  · have a1 : ∀ c, c < 27 → zSo (zMix 0 27 s x') 0 c = x' c := fun c hc => zMx_x hc
    have a2 : ∀ c, c < 19 → zSo (zMix 0 27 s x') 27 c = zSo s 27 c := fun c hc => zMx_m
    rw [e1, zHx_r, hk, zBd_r]
    rcases C _ _ (zInv_e h (fun c _ => rfl) a2) with ⟨v1, x1, m1, f1, f2, f3, f4⟩ | ⟨k1, b1, w1, x1, m1, g1, g2, f1, f2, f3, f4⟩
    · rw [e1] at f1
      cases f1
    · rw [e1] at f1
      cases f1
      have hbb : b1 = b := by
        have := (g1 s x').symm.trans (hk s x')
        exact congrArg (fun q => match q with | some (a, _) => a | none => 0) this
      rw [f2, zBd_e, zLt_e, q_thrown, zBd_e, zLt_e, zMix_so, zThr, if_pos (f3.trans hbb), zLt_e]
      exact ⟨_, rfl, zJ_m f4 a1⟩
theorem L_bool {n y y' : Nat} {ks : List (Nat × Int32)} {rx : zS → Option ((Int32 ⊕ Nat) × zS)} {rm : zS → Option (Int32 × zS)} (C : ∀ x m, zInv y x m → zCall y' ks (rx x) (rm m)) {s : zS} (h : zJ y s) (rec : Int32 → zS → Option (Int32 × zS)) (v4 : Int32) : ∃ s', (zBd (zHx (rx (zSo s 0)) (hG ks s) fun x1 s2 => zLt (zMix 0 27 s s2) fun s3 => if x1 = 0 then (zWr s3 46 (0 : Int32) 1 (0 : Int32) fun s5 => zRt (0 : Int32) s5) else (zWr s3 46 (0 : Int32) 1 (1 : Int32) fun s6 => zRt (0 : Int32) s6)) fun x98 s99 => zBd (rm (zSo s99 27)) fun x102 s103 => zLt (zMix 27 19 s99 s103) fun s104 => zBd (m_X8_thrown n (zSo s104 27)) fun x105 s106 => zLt (zMix 27 19 s104 s106) fun s107 => if x105 = x98 then (if x98 = 0 then (zRd (s107 46) (0 : Int32) 1 fun x111 => if x102 = 0 then (if (lg_cmp (Int32.toInt64 x111) (0 : Int64)) = 0 then (zLt (v4 + (5 : Int32)) fun x114 => rec x114 s107) else (zRt (0 : Int32) s107)) else (if (lg_cmp (Int32.toInt64 x111) (1 : Int64)) = 0 then (zLt (v4 + (5 : Int32)) fun x116 => rec x116 s107) else (zRt (0 : Int32) s107))) else (zLt (v4 + (5 : Int32)) fun x110 => rec x110 s107)) else (zRt (0 : Int32) s107)) = rec (v4 + (5 : Int32)) s' ∧ zJ y' s' := by
  rcases C _ _ h with ⟨v, x', m', e1, -, -, -⟩ | ⟨k, b, w, x', m', hk, hb, e1, -, -, -⟩
  · rw [e1, zHx_l, zLt_e]
    by_cases hv : v = 0
    · have a1 : ∀ c, c < 27 → zSo (zU (zMix 0 27 s x') 46 0 0) 0 c = x' c := fun c hc => by rw [zSo_u (by omega), zMx_x hc]
      have a2 : ∀ c, c < 19 → zSo (zU (zMix 0 27 s x') 46 0 0) 27 c = zSo s 27 c := fun c hc => by rw [zSo_u (by omega), zMx_m]
      rw [if_pos hv, zWr_0, zBd_r]
      rcases C _ _ (zInv_e h (fun c _ => rfl) a2) with ⟨v1, x1, m1, f1, f2, f3, f4⟩ | ⟨k1, b1, w1, x1, m1, _, _, f1, _, _, _⟩
      · rw [e1] at f1
        cases f1
        rw [f2, zBd_e, zLt_e, q_thrown, zBd_e, zLt_e, zMix_so, zThr, if_pos f3, if_pos rfl, zMm_46, zRd_0, zU_eq, if_pos hv, if_pos (show lg_cmp (Int32.toInt64 0) (0 : Int64) = 0 from by decide +kernel), zLt_e]
        exact ⟨_, rfl, zJ_m f4 a1⟩
      · rw [e1] at f1
        cases f1
    · have a1 : ∀ c, c < 27 → zSo (zU (zMix 0 27 s x') 46 0 1) 0 c = x' c := fun c hc => by rw [zSo_u (by omega), zMx_x hc]
      have a2 : ∀ c, c < 19 → zSo (zU (zMix 0 27 s x') 46 0 1) 27 c = zSo s 27 c := fun c hc => by rw [zSo_u (by omega), zMx_m]
      rw [if_neg hv, zWr_0, zBd_r]
      rcases C _ _ (zInv_e h (fun c _ => rfl) a2) with ⟨v1, x1, m1, f1, f2, f3, f4⟩ | ⟨k1, b1, w1, x1, m1, _, _, f1, _, _, _⟩
      · rw [e1] at f1
        cases f1
        rw [f2, zBd_e, zLt_e, q_thrown, zBd_e, zLt_e, zMix_so, zThr, if_pos f3, if_pos rfl, zMm_46, zRd_0, zU_eq, if_neg hv, if_pos (show lg_cmp (Int32.toInt64 1) (1 : Int64) = 0 from by decide +kernel), zLt_e]
        exact ⟨_, rfl, zJ_m f4 a1⟩
      · rw [e1] at f1
        cases f1
  · have a1 : ∀ c, c < 27 → zSo (zMix 0 27 s x') 0 c = x' c := fun c hc => zMx_x hc
    have a2 : ∀ c, c < 19 → zSo (zMix 0 27 s x') 27 c = zSo s 27 c := fun c hc => zMx_m
    rw [e1, zHx_r, hk, zBd_r]
    rcases C _ _ (zInv_e h (fun c _ => rfl) a2) with ⟨v1, x1, m1, f1, f2, f3, f4⟩ | ⟨k1, b1, w1, x1, m1, g1, g2, f1, f2, f3, f4⟩
    · rw [e1] at f1
      cases f1
    · rw [e1] at f1
      cases f1
      have hbb : b1 = b := by
        have := (g1 s x').symm.trans (hk s x')
        exact congrArg (fun q => match q with | some (a, _) => a | none => 0) this
      rw [f2, zBd_e, zLt_e, q_thrown, zBd_e, zLt_e, zMix_so, zThr, if_pos (f3.trans hbb), if_neg hb, zLt_e]
      exact ⟨_, rfl, zJ_m f4 a1⟩
def zDir (y : Nat) (rx rm : Option (Int32 × zS)) : Prop := ∃ v x' m', rx = some (v, x') ∧ rm = some (v, m') ∧ zInv y x' m'
theorem L_dir {y y' : Nat} {rx rm : zS → Option (Int32 × zS)} (C : ∀ x m, zInv y x m → zDir y' (rx x) (rm m)) {s : zS} (h : zJ y s) (rec : Int32 → zS → Option (Int32 × zS)) (v4 : Int32) : ∃ s', (zBd (rx (zSo s 0)) fun x173 s174 => zLt (zMix 0 27 s s174) fun s175 => zBd (rm (zSo s175 27)) fun x176 s177 => zLt (zMix 27 19 s175 s177) fun s178 => if x173 = x176 then (zLt (v4 + (5 : Int32)) fun x180 => rec x180 s178) else (zRt (0 : Int32) s178)) = rec (v4 + (5 : Int32)) s' ∧ zJ y' s' := by
  obtain ⟨v, x', m', e1, -, -⟩ := C _ _ h
  have a1 : ∀ c, c < 27 → zSo (zMix 0 27 s x') 0 c = x' c := fun c hc => zMx_x hc
  have a2 : ∀ c, c < 19 → zSo (zMix 0 27 s x') 27 c = zSo s 27 c := fun c hc => zMx_m
  rw [e1, zBd_e, zLt_e]
  obtain ⟨v1, x1, m1, f1, f2, f3⟩ := C _ _ (zInv_e h (fun c _ => rfl) a2)
  rw [e1] at f1
  cases f1
  rw [f2, zBd_e, zLt_e, if_pos rfl, zLt_e]
  exact ⟨_, rfl, zJ_m f3 a1⟩
end PLg
end
section
section PCa
/-! calls on lines -/
theorem le00 : (0 : Int32) ≤ 0 := by decide
theorem ne10 : ¬ (1 : Int32) = 0 := by decide
theorem ca1 {n : Nat} {s : zS} : m_X7_checkArgument n 1 s = some (.inl 0, s) := by unfold m_X7_checkArgument; rw [if_neg (by decide)]; rfl
theorem ca0 {n : Nat} {s : zS} : m_X7_checkArgument n 0 s = some (.inr 2, s) := by unfold m_X7_checkArgument; rw [if_pos rfl]; rfl
theorem cs1 {n : Nat} {s : zS} : m_X7_checkState n 1 s = some (.inl 0, s) := by unfold m_X7_checkState; rw [if_neg (by decide)]; rfl
theorem cs0 {n : Nat} {s : zS} : m_X7_checkState n 0 s = some (.inr 3, s) := by unfold m_X7_checkState; rw [if_pos rfl]; rfl
theorem cp1 {n : Nat} {s : zS} : m_X7_checkPlace n 1 s = some (.inl 0, s) := by unfold m_X7_checkPlace; rw [if_neg (by decide)]; rfl
theorem cp0 {n : Nat} {s : zS} : m_X7_checkPlace n 0 s = some (.inr 1, s) := by unfold m_X7_checkPlace; rw [if_pos rfl]; rfl
theorem in_cases (a b : Nat) (lo hi : Int32) (h1 : lo = nI a) (h2 : hi = nI b) (ha : a < 2147483648) (hb : b < 2147483648) (v : Int32) : (∃ k, a ≤ k ∧ k ≤ b ∧ v = nI k ∧ (∀ n s, m_X7_isWithin n v lo hi s = some (1, s)) ∧ ∀ n s, m_X8_isIn n v lo hi s = some (1, s)) ∨ ((∀ n s, m_X7_isWithin n v lo hi s = some (0, s)) ∧ ∀ n s, m_X8_isIn n v lo hi s = some (0, s)) := by
  have same : ∀ n s, m_X8_isIn n v lo hi s = m_X7_isWithin n v lo hi s := fun n s => rfl
  by_cases h : lo ≤ v ∧ v ≤ hi
  · left
    have h0 : ¬ v < 0 := by
      have : (0 : Int32) ≤ v := Int32.le_trans (h1 ▸ nI_pos' ha) h.1
      exact Int32.not_lt.mpr this
    obtain ⟨k, hk, rfl⟩ := nI_of h0
    refine ⟨k, ?_, ?_, rfl, fun n s => by rw [p_isWithin, if_pos h], fun n s => by rw [same, p_isWithin, if_pos h]⟩
    · exact (le_n ha hk).mp (h1 ▸ h.1)
    · exact (le_n hk hb).mp (h2 ▸ h.2)
  · right
    exact ⟨fun n s => by rw [p_isWithin, if_neg h], fun n s => by rw [same, p_isWithin, if_neg h]⟩
theorem line_cases (n : Nat) (v : Int32) : (∃ k, k < 16 ∧ v = nI k ∧ (∀ s, m_X7_checkLine n v s = some (.inl 0, s)) ∧ ∀ s, m_X8_isLine n v s = some (1, s)) ∨ ((∀ s, m_X7_checkLine n v s = some (.inr 1, s)) ∧ ∀ s, m_X8_isLine n v s = some (0, s)) := by
  rcases in_cases 0 15 0 15 rfl rfl (by omega) (by omega) v with ⟨k, _, hk, rfl, d1, d2⟩ | ⟨d1, d2⟩
  · refine Or.inl ⟨k, by omega, rfl, fun s => ?_, fun s => ?_⟩
    · unfold m_X7_checkLine
      rw [d1, zBd_e, cp1, zBx_e]; rfl
    · unfold m_X8_isLine
      rw [d2, zBd_e, zGd_e (zn_id _ (Or.inr rfl))]; rfl
  · refine Or.inr ⟨fun s => ?_, fun s => ?_⟩
    · unfold m_X7_checkLine
      rw [d1, zBd_e, cp0, zBx_t]
    · unfold m_X8_isLine
      rw [d2, zBd_e, zGd_e (zn_id _ (Or.inl rfl))]; rfl
theorem zInv_an {y k a : Nat} {x m : zS} (h : zInv y x m) (ha : a ≤ 1000000) : zInv y (zU x 5 k (nI a)) (zU m 4 k (nI a)) := by
  obtain ⟨⟨j2, j3, j4, j5⟩, ⟨k1, k2, k3, k4, k5, k6⟩, i3, i4, i5, i6, i7⟩ := h
  have X : ∀ c, c ≠ 5 → zU x 5 k (nI a) c = x c := fun c hc => zU_ne hc
  have M : ∀ c, c ≠ 4 → zU m 4 k (nI a) c = m c := fun c hc => zU_ne hc
  have e5 : zU x 5 k (nI a) 5 = upd (x 5) k (nI a) := zU_k
  refine ⟨⟨by rw [X 2 (by decide), M 1 (by decide)]; exact j2, by rw [X 3 (by decide), M 2 (by decide)]; exact j3, by rw [X 4 (by decide), M 3 (by decide)]; exact j4, by rw [zU_k, zU_k, j5]⟩, ?_, zI3_c i3 (by rw [X 10 (by decide)]) (X 11 (by decide)) (X 12 (by decide)) (by rw [M 0 (by decide)]) (M 5 (by decide)) (M 6 (by decide)), zI4_c i4 (X 13 (by decide)) (X 14 (by decide)) (X 15 (by decide)) (by rw [M 0 (by decide)]) (by rw [M 0 (by decide)]) (M 7 (by decide)) (M 8 (by decide)), zI5_c i5 (X 16 (by decide)) (X 17 (by decide)) (X 18 (by decide)) (X 20 (by decide)) (by rw [M 0 (by decide)]) (M 9 (by decide)) (M 10 (by decide)) (M 18 (by decide)), zI6_c i6 (X 22 (by decide)) (X 24 (by decide)), zI7_c i7 (M 11 (by decide)) (M 12 (by decide))⟩
  unfold zI2
  rw [zo_c (X 9 (by decide)), X 2 (by decide), X 3 (by decide), X 4 (by decide), X 7 (by decide), X 8 (by decide), X 9 (by decide), e5]
  refine ⟨k1, k2, k3, k4, k5, fun i hi => ?_⟩
  by_cases q : i = k
  · rw [q, upd_s]; exact ⟨a, ha, rfl⟩
  · rw [upd_n q]; exact k6 i hi
theorem C_answer {n y : Nat} {v1 v2 : Int32} (x m : zS) (h : zInv y x m) : zCall y [(1, 1), (2, 2)] (m_X7_answer n v1 v2 x) (m_X8_answer n v1 v2 m) := by
  unfold m_X7_answer m_X8_answer
  rcases line_cases n v1 with ⟨k, hk, rfl, c1, c2⟩ | ⟨c1, c2⟩
  · rw [c1, zBx_e, c2, zBd_e, if_neg ne10]
    rcases in_cases 0 1000000 0 1000000 rfl rfl (by omega) (by omega) v2 with ⟨a, _, ha, rfl, d1, d2⟩ | ⟨d1, d2⟩
    · rw [d1, zBd_e, ca1, zBx_e, p_given, zBd_e, a16 hk, d2, zBd_e, if_neg ne10]
      unfold m_X5_give m_X8_answer_j27
      rw [p_put hk (by decide), zBd_e, zBd_r, zLt_e, zU_eq, if_pos le00, zRd_n hk (by decide), zWr_n hk (by decide)]
      refine Or.inl ⟨_, _, _, rfl, ?_, ?_, zInv_an (zInv_t h 0) ha⟩
      · rw [zU_ne (a := 4) (by decide), h.1.2.2.2]; rfl
      · rw [zU_ne (a := 0) (by decide), zU_eq]
    · rw [d1, zBd_e, ca0, zBx_t, d2, zBd_e, if_pos rfl]
      refine Or.inr ⟨2, 2, 0, _, zU m 0 23 2, fun _ _ => rfl, by decide, rfl, ?_, zU_eq, zInv_t h _⟩
      unfold m_X8_answer_j27
      rw [zLt_e, zU_eq, if_neg (by decide)]; rfl
  · rw [c1, zBx_t, c2, zBd_e, if_pos rfl]
    refine Or.inr ⟨1, 1, 0, _, zU m 0 23 1, fun _ _ => rfl, by decide, rfl, ?_, zU_eq, zInv_t h _⟩
    unfold m_X8_answer_j27
    rw [zLt_e, zU_eq, if_neg (by decide)]; rfl
theorem C_kindOf {n y : Nat} {v1 : Int32} (x m : zS) (h : zInv y x m) : zCall y [(1, 1)] (m_X7_kindOf n v1 x) (m_X8_kindOf n v1 m) := by
  unfold m_X7_kindOf m_X8_kindOf
  rcases line_cases n v1 with ⟨k, hk, rfl, c1, c2⟩ | ⟨c1, c2⟩
  · rw [c1, zBx_e, c2, zBd_e, if_neg ne10, p_kind, zBd_e, a16 hk]
    unfold m_X8_kindOf_j13
    rw [zLt_e, zU_eq, if_pos le00, zRd_n hk (by decide), zU_ne (a := 1) (by decide), ← h.1.1]
    exact Or.inl ⟨_, _, _, rfl, rfl, zU_eq, zInv_t h 0⟩
  · rw [c1, zBx_t, c2, zBd_e, if_pos rfl]
    refine Or.inr ⟨1, 1, 0, _, zU m 0 23 1, fun _ _ => rfl, by decide, rfl, ?_, zU_eq, zInv_t h _⟩
    unfold m_X8_kindOf_j13
    rw [zLt_e, zU_eq, if_neg (by decide)]; rfl
theorem zS2_th {m : zS} {e w : Nat → Int32} {v : Int32} : zS2 (zU m 0 23 v) e w 0 23 = v := by rw [zS2_n (by decide) (by decide), zU_eq]
theorem C_value {n y : Nat} (hn : 100 ≤ n) {v1 : Int32} (x m : zS) (h : zInv y x m) : zCall y [(1, 1)] (m_X7_value n v1 x) (m_X8_value n v1 m) := by
  unfold m_X7_value m_X8_value
  rcases line_cases n v1 with ⟨k, hk, rfl, c1, c2⟩ | ⟨c1, c2⟩
  · obtain ⟨e, e', w, w1, w2, w3, w4, w5⟩ := inv_work hn (zInv_t h 0)
    rw [c1, zBx_e, c2, zBd_e, if_neg ne10, w1, zBd_e, p_of, zBd_e, a16 hk, zXe_e]
    unfold m_X8_value_j13
    rw [zLt_e, zU_eq, if_pos le00, w2, zBd_e, zRd_n (by omega) (by decide), zS2_v, w4 k hk]
    exact Or.inl ⟨_, _, _, rfl, rfl, zS2_th, w3⟩
  · rw [c1, zBx_t, c2, zBd_e, if_pos rfl]
    refine Or.inr ⟨1, 1, 0, _, zU m 0 23 1, fun _ _ => rfl, by decide, rfl, ?_, zU_eq, zInv_t h _⟩
    unfold m_X8_value_j13
    rw [zLt_e, zU_eq, if_neg (by decide)]; rfl
theorem C_dependsOn {n y : Nat} (hn : 100 ≤ n) {v1 v2 : Int32} (x m : zS) (h : zInv y x m) : zCall y [(1, 1)] (m_X7_dependsOn n v1 v2 x) (m_X8_dependsOn n v1 v2 m) := by
  have bad : zCall y [(1, 1)] (some (.inr 1, x)) (m_X8_dependsOn_j20 n v1 v2 1 m) := by
    refine Or.inr ⟨1, 1, 0, _, zU m 0 23 1, fun _ _ => rfl, by decide, rfl, ?_, zU_eq, zInv_t h _⟩
    unfold m_X8_dependsOn_j20
    rw [zLt_e, zU_eq, if_neg (by decide)]; rfl
  unfold m_X7_dependsOn m_X8_dependsOn
  rcases line_cases n v1 with ⟨k, hk, rfl, c1, c2⟩ | ⟨c1, c2⟩
  · rw [c1, zBx_e, c2, zBd_e, if_neg ne10]
    rcases line_cases n v2 with ⟨j, hj, rfl, d1, d2⟩ | ⟨d1, d2⟩
    · rw [d1, zBx_e, d2, zBd_e, if_neg ne10, p_reach, zBd_e, a16 hk, p_has, zBd_e, has_n (by omega)]
      unfold m_X8_dependsOn_j20
      obtain ⟨s', e1, e2, e3⟩ := q_needs hn (-1) (zU m 0 23 0)
      rw [zLt_e, zU_eq, if_pos le00, e1, zBd_e, q_depends hk (by omega), zBd_e]
      have hb : bt (s' 13 k) j = bt (x 7 k) j := by
        rw [e3 k hk j (by omega), zw_R hk, zU_ne (by decide), zU_ne (by decide), zU_ne (by decide), h.2.1.2.2.1 k hk j (by omega), h.1.1, h.1.2.1, h.1.2.2.1]
      rw [hb]
      have hz : (if bt (x 7 k) j = true then (1 : Int32) else 0) = 0 ∨ (if bt (x 7 k) j = true then (1 : Int32) else 0) = 1 := by
        by_cases q : bt (x 7 k) j = true
        · rw [if_pos q]; exact Or.inr rfl
        · rw [if_neg q]; exact Or.inl rfl
      rw [zGd_e (zn_id _ hz), zGd_e (zn_id _ hz)]
      refine Or.inl ⟨_, _, s', rfl, rfl, ?_, zInv_m (zInv_t h 0) (fun c c1 c2 => e2 c (by omega)) (e2 18 (by decide)) (fun j _ _ => by rw [e2 0 (by decide)]) (zI7_c (zInv_t h 0).2.2.2.2.2.2 (e2 11 (by decide)) (e2 12 (by decide)))⟩
      rw [e2 0 (by decide), zU_eq]
    · rw [d1, zBx_t, d2, zBd_e, if_pos rfl]
      exact bad
  · rw [c1, zBx_t, c2, zBd_e, if_pos rfl]
    exact bad
theorem C_why {n y : Nat} (hn : 100 ≤ n) {v1 v2 : Int32} (x m : zS) (h : zInv y x m) : zCall y [(1, 1)] (m_X7_why n v1 v2 x) (m_X8_why n v1 v2 m) := by
  have bad : zCall y [(1, 1)] (some (.inr 1, x)) (m_X8_why_j17 n v1 v2 1 m) := by
    refine Or.inr ⟨1, 1, 0, _, zU m 0 23 1, fun _ _ => rfl, by decide, rfl, ?_, zU_eq, zInv_t h _⟩
    unfold m_X8_why_j17
    rw [zLt_e, zU_eq, if_neg (by decide)]; rfl
  unfold m_X7_why m_X8_why
  rcases line_cases n v1 with ⟨k, hk, rfl, c1, c2⟩ | ⟨c1, c2⟩
  · rw [c1, zBx_e, c2, zBd_e, if_neg ne10]
    by_cases hv : v2 < 0
    · rw [if_pos hv, if_pos hv]
      unfold m_X7_why_j13
      rw [cp0, zBx_t]
      exact bad
    · obtain ⟨e, e', w, w1, w2, w3, w4, w5⟩ := inv_work hn (zInv_t h 0)
      have hwf := h.2.1.1.1
      obtain ⟨u, u1, u2, u3⟩ := p_explain (n := n) (s := zXe x e) (e := e) hn (by rw [zXe_n (by decide) (by decide), zXe_n (by decide) (by decide), zXe_n (by decide) (by decide)]; exact hwf) (fun k _ => by rw [zXe_e]) hk
      obtain ⟨t, t1, t2⟩ := q_explain (n := n) (m := zS2 (zU m 0 23 0) e' w) (e := e) (v2 := v2) hn hv (by rw [zS2_n (by decide) (by decide), zS2_n (by decide) (by decide), zS2_n (by decide) (by decide), zU_ne (by decide), zU_ne (by decide), zU_ne (by decide), ← h.1.1, ← h.1.2.1, ← h.1.2.2.1]; exact hwf) (fun k hk => by rw [zS2_v]; exact w4 k hk) hk
      rw [if_neg hv, if_neg hv]
      unfold m_X7_why_j13 m_X8_why_j17
      have e15 : ∀ f : zS → Option (Int32 × zS), zWr (zS2 (zU m 0 23 0) e' w) 15 (0 : Int32) 16 (nI k) f = f (zU (zS2 (zU m 0 23 0) e' w) 15 0 (nI k)) := fun f => zWr_n (j := 0) (by decide) (by decide)
      rw [cp1, zBx_e, w1, zBd_e, u1, zBd_e, u3 v2 hv, zBd_e, zLt_e, zU_eq, if_pos le00, w2, zBd_e, e15, zLt_e, t1]
      have kf : ∀ c, c < 25 → u c = zXe x e c := fun c hc => u2 c (by omega) (by omega)
      refine Or.inl ⟨_, _, _, rfl, ?_, ?_, zInv_c w3 (fun c _ _ hc => kf c (by omega)) (zI6_c w3.2.2.2.2.2.1 (kf 22 (by decide)) (kf 24 (by decide))) (fun c _ c2 => t2 c (by omega)) (t2 18 (by decide)) (fun j _ _ => by rw [t2 0 (by decide)]) (zI7_c w3.2.2.2.2.2.2 (t2 11 (by decide)) (t2 12 (by decide)))⟩
      · rw [zXe_n (by decide) (by decide), zXe_n (by decide) (by decide), zXe_n (by decide) (by decide), zS2_n (by decide) (by decide), zS2_n (by decide) (by decide), zS2_n (by decide) (by decide), zU_ne (by decide), zU_ne (by decide), zU_ne (by decide), ← h.1.1, ← h.1.2.1, ← h.1.2.2.1]
      · rw [t2 0 (by decide), zS2_th]
  · rw [c1, zBx_t, c2, zBd_e, if_pos rfl]
    exact bad
end PCa
end
section
section PCb
/-! what a LIMIT's second line has -/
theorem p_placeOf {n k p0 : Nat} (hn : 100 ≤ n) {s : zS} (ho : ∀ p, p < 16 → s 9 p = nI (zo s p)) (hb : ∀ p, p < 16 → zo s p < 16) (hp0 : p0 < 16) (e0 : zo s p0 = k) : ∃ p, p < 16 ∧ zo s p = k ∧ m_X4_placeOf n (nI k) s = some (nI p, s) := by
  have key : ∀ d i f, i + d = 16 → d < f → i ≤ p0 → ∃ p, p < 16 ∧ zo s p = k ∧ m_X4_placeOf_j2 n f (nI k) (nI i) s = some (nI p, s) := by
    intro d
    induction d with
    | zero => intro i f hi hf hp; exact absurd hp (by omega)
    | succ d ih =>
      intro i f hi hf hp
      obtain ⟨f, rfl⟩ : ∃ g, f = g + 1 := ⟨f - 1, by omega⟩
      have hk : k < 16 := e0 ▸ hb p0 hp0
      have hi16 := hb i (by omega)
      rw [m_X4_placeOf_j2, if_neg (n16 (by omega)), p_lineAt_n (by omega) ho, zBd_e]
      by_cases q : zo s i = k
      · rw [if_pos (by rw [q])]
        exact ⟨i, by omega, q, rfl⟩
      · rw [if_neg (fun e => q ((eq_n (by omega) (by omega)).mp e)), zLt_e, nI_s]
        exact ih (i + 1) f (by omega) (by omega) (by
          by_cases e : i = p0
          · exact absurd (e ▸ e0) q
          · omega)
  exact key 16 0 n (by omega) (by omega) (by omega)
theorem inv_bound {n y k : Nat} (hn : 100 ≤ n) {x m : zS} {v : Int32} (h : zInv y x m) (hk : k < 16) (h8 : x 2 k = 8) (hv : zBn v) : ∃ e p e2 e' w, m_X6_workOut n (-1) x = some (0, zXe x e) ∧ m_X4_placeOf n (nI k) (zXe x e) = some (nI p, zXe x e) ∧ m_X6_suppose n (nI p) v (zXe x e) = some (0, zXe x e2) ∧ m_X8_solves n (nI k) v m = some (0, zS2 m e' w) ∧ e' (zN (x 4 k)) = e2 (zN (x 4 k)) ∧ (∀ k, k < 16 → zBn (e2 k)) ∧ zInv y (zXe x e2) (zS2 m e' w) := by
  obtain ⟨tx, tot, hV, hR⟩ := inv_tt hn h
  obtain ⟨⟨j2, j3, j4, j5⟩, ⟨k1, k2, _, _, _, _⟩, _, _, _, i6, i7⟩ := id h
  obtain ⟨e, w1, w2, w3⟩ := p_workOut hn (-1) hV i6.1
  rw [zAn_m] at w3
  have hV' : zVs n (zXe x e) tx tot := zVs_c hV (fun c hc => zXe_n (by omega) (by omega))
  have zoe : zo (zXe x e) = zo x := zo_c (zXe_n (by decide) (by decide))
  obtain ⟨p0, hp0, e0⟩ := zPn_pos k1 hk
  obtain ⟨p, hp, ep, pe⟩ := p_placeOf (n := n) (k := k) (s := zXe x e) hn (fun p hp => by rw [zoe, zXe_n (by decide) (by decide)]; exact k2 p hp) (fun p hp => by rw [zoe]; exact k1.2.1 p hp) hp0 (by rw [zoe]; exact e0)
  rw [zoe] at ep
  subst ep
  obtain ⟨c, hx⟩ := zPn_ex k1 hp h8
  have hs := p_suppose (n := n) (s := zXe x e) (p := p) (c := c) (v := v) hn hV' (by rw [zXe_e]; exact w2) hv (by rw [zoe, zXe_n (by decide) (by decide)]; exact h8) (by rw [zoe, zXe_n (by decide) (by decide), zXe_n (by decide) (by decide), zXe_n (by decide) (by decide)]; exact hx)
  rw [zoe, zXe_n (c := 2) (by decide) (by decide), zXe_n (c := 3) (by decide) (by decide), zXe_n (c := 4) (by decide) (by decide), zXe_n (c := 5) (by decide) (by decide), zXe_r, zAn_m, zXe_e] at hs
  obtain ⟨s1, s2⟩ := hs
  obtain ⟨e', w, q1, q2, q3, q4⟩ := q_solves (fx := nI (zo x p)) (its := v) hn hR i7.1 i7.2 (fun j hj q => by rw [← j2, (eq_n (by omega) (by omega)).mp q]; exact h8) hv
  have hg := (zWf_g k1.1 hk (by rw [h8]; decide)).1
  have hz : zSt (zXe x e) 22 (zSup (zPv (x 2) (x 3) (x 4) tx tot (x 5)) (zo x) (p + 1) (c - 1) (upd e (zo x p) v)) = zXe x (zSup (zPv (x 2) (x 3) (x 4) tx tot (x 5)) (zo x) (p + 1) (c - 1) (upd e (zo x p) v)) := by
    unfold zXe
    rw [zSt_z]
  rw [hz] at s1
  refine ⟨e, p, _, e', w, w1, pe, s1, q1, ?_, s2, zS2_i7 (zXe_i h s2) q2 q3⟩
  have hb := v_bound (v := v) k1 w2 w3 h8 hx s2
  rw [j2, j3, j4, j5] at hb
  rw [j2, j3, j4, j5]
  refine q4 _ _ hb _ (by rw [← j4]; exact hg) ?_
  rw [← j2, ← j3, ← j4]
  by_cases q : zR (x 2) (x 3) (x 4) (zN (x 4 (zo x p))) (zo x p) = true
  · right
    have hu : zUb (x 2) (x 3) (x 4) false (zo x p) (zN (x 4 (zo x p))) := Or.inr ⟨by rw [h8]; decide, rfl, rfl⟩
    have hc : zCl (x 2) (x 3) (x 4) (zo x p) := ⟨h8, zTC_tr hg (zR_u k1.1 hk hu) q⟩
    exact zCl_g k1 hk hc
  · exact Or.inl q
theorem C_boundFor {n y : Nat} (hn : 100 ≤ n) {v1 v2 : Int32} (x m : zS) (h : zInv y x m) : zCall y [(1, 1), (2, 2), (3, 3)] (m_X7_boundFor n v1 v2 x) (m_X8_boundFor n v1 v2 m) := by
  unfold m_X7_boundFor m_X8_boundFor
  rcases line_cases n v1 with ⟨k, hk, rfl, c1, c2⟩ | ⟨c1, c2⟩
  · rw [c1, zBx_e, c2, zBd_e, if_neg ne10]
    rcases in_cases 0 1000000000 0 1000000000 rfl rfl (by omega) (by omega) v2 with ⟨a, _, ha, rfl, d1, d2⟩ | ⟨d1, d2⟩
    · rw [d1, zBd_e, ca1, zBx_e, p_kind, zBd_e, a16 hk, d2, zBd_e, if_neg ne10, zRd_n hk (by decide), ← h.1.1]
      by_cases h8 : x 2 k = 8
      · obtain ⟨e, p, e2, e', w, w1, w2, w3, w4, w5, w6, w7⟩ := inv_bound hn (zInv_t h 0) hk h8 ⟨a, ha, rfl⟩
        obtain ⟨g, hg, eg⟩ : ∃ g, g < 16 ∧ x 4 k = nI g := ⟨_, zWf_g h.2.1.1.1 hk (by rw [h8]; decide)⟩
        rw [eg, zN_n (by omega)] at w5
        rw [if_pos h8, if_pos h8]
        unfold m_X7_boundFor_j32 m_X8_boundFor_j42
        rw [cs1, zBx_e, w1, zBd_e, w2, zBd_e, w3, zBd_e, p_second, zBd_e, a16 hk, zXe_n (c := 4) (by decide) (by decide), eg, p_of, zBd_e, a16 hg, zXe_e, zLt_e, zU_eq, if_pos le00, w4, zBd_e, zRd_n hk (by decide), zS2_n (c := 3) (by decide) (by decide), zU_ne (a := 3) (by decide), ← h.1.2.2.1, eg, zRd_n (by omega) (by decide), zS2_v, w5]
        exact Or.inl ⟨_, _, _, rfl, rfl, zS2_th, w7⟩
      · rw [if_neg h8, if_neg h8]
        unfold m_X7_boundFor_j32
        rw [cs0, zBx_t]
        refine Or.inr ⟨3, 3, 0, _, zU m 0 23 3, fun _ _ => rfl, by decide, rfl, ?_, zU_eq, zInv_t h _⟩
        unfold m_X8_boundFor_j42
        rw [zLt_e, zU_eq, if_neg (by decide)]; rfl
    · rw [d1, zBd_e, ca0, zBx_t, d2, zBd_e, if_pos rfl]
      refine Or.inr ⟨2, 2, 0, _, zU m 0 23 2, fun _ _ => rfl, by decide, rfl, ?_, zU_eq, zInv_t h _⟩
      unfold m_X8_boundFor_j42
      rw [zLt_e, zU_eq, if_neg (by decide)]; rfl
  · rw [c1, zBx_t, c2, zBd_e, if_pos rfl]
    refine Or.inr ⟨1, 1, 0, _, zU m 0 23 1, fun _ _ => rfl, by decide, rfl, ?_, zU_eq, zInv_t h _⟩
    unfold m_X8_boundFor_j42
    rw [zLt_e, zU_eq, if_neg (by decide)]; rfl
end PCb
end
section
section PIn
/-! how many lines have another value -/
def zDf (a b : Nat → Int32) : Nat → Int32
  | 0 => 0
  | k + 1 => if a k = b k then zDf a b k else zDf a b k + 1
theorem zDf_c {a b a' b' : Nat → Int32} : ∀ k, (∀ j, j < k → a j = b' j ∧ b j = a' j) → zDf a b k = zDf a' b' k := by
  intro k
  induction k with
  | zero => intro _; rfl
  | succ k ih =>
    intro h
    have e := ih (fun j hj => h j (by omega))
    obtain ⟨h1, h2⟩ := h k (by omega)
    unfold zDf
    rw [h1, h2, e]
    by_cases q : a' k = b' k
    · rw [if_pos q, if_pos q.symm]
    · rw [if_neg q, if_neg (fun x => q x.symm)]
theorem p_count {n : Nat} (hn : 100 ≤ n) {s : zS} {a b : Nat → Int32} (ha : ∀ k, k < 16 → s 22 k = a k) (hb : ∀ k, k < 16 → s 24 k = b k) : m_X7_influence_j37 n n 0 0 s = some (.inl (zDf a b 16), s) := by
  obtain ⟨v, f1, hf1, hI, e1⟩ := for_up (fun f k (v : Int32) => m_X7_influence_j37 n f v (nI k) s) (fun k v => v = zDf a b k) 16 (by
    rintro f k v hk rfl
    refine ⟨_, rfl, ?_⟩
    show m_X7_influence_j37 n (f + 1) (zDf a b k) (nI k) s = m_X7_influence_j37 n f (if a k = b k then zDf a b k else zDf a b k + 1) (nI (k + 1)) s
    rw [m_X7_influence_j37, if_neg (n16 hk), p_of, zBd_e, p_ofb, zBd_e, a16 hk, a16 hk, ha k hk, hb k hk]
    by_cases q : a k = b k
    · rw [if_pos q, if_pos q, zLt_e, nI_s]
    · rw [if_neg q, if_neg q, zLt_e, zLt_e, nI_s]) 16 n 0 0 (by omega) (by omega) rfl
  obtain ⟨f1, rfl⟩ : ∃ g, f1 = g + 1 := ⟨f1 - 1, by omega⟩
  refine (show _ = _ from e1).trans ?_
  show m_X7_influence_j37 n (f1 + 1) v (nI 16) s = _
  rw [m_X7_influence_j37, if_pos n16e, hI]; rfl
theorem q_count {n : Nat} (hn : 100 ≤ n) {s : zS} {a b : Nat → Int32} (ha : ∀ k, k < 16 → s 11 k = a k) (hb : ∀ k, k < 16 → s 16 k = b k) : m_X8_influence_j96 n n 0 0 s = some (zDf a b 16, s) := by
  obtain ⟨v, f1, hf1, hI, e1⟩ := for_up (fun f k (v : Int32) => m_X8_influence_j96 n f v (nI k) s) (fun k v => v = zDf a b k) 16 (by
    rintro f k v hk rfl
    refine ⟨_, rfl, ?_⟩
    show m_X8_influence_j96 n (f + 1) (zDf a b k) (nI k) s = m_X8_influence_j96 n f (if a k = b k then zDf a b k else zDf a b k + 1) (nI (k + 1)) s
    rw [m_X8_influence_j96, if_neg (n16 hk), zRd_n (by omega) (by decide), zRd_n hk (by decide), ha k hk, hb k hk]
    by_cases q : a k = b k
    · rw [if_pos q, if_pos q, zLt_e, zLt_e, nI_s, Int32.add_zero]
    · rw [if_neg q, if_neg q, zLt_e, zLt_e, nI_s]) 16 n 0 0 (by omega) (by omega) rfl
  obtain ⟨f1, rfl⟩ : ∃ g, f1 = g + 1 := ⟨f1 - 1, by omega⟩
  refine (show _ = _ from e1).trans ?_
  show m_X8_influence_j96 n (f1 + 1) v (nI 16) s = _
  rw [m_X8_influence_j96, if_pos n16e, hI]; rfl
theorem upd_self {f : Nat → Int32} {j : Nat} : upd f j (f j) = f := by
  funext i
  by_cases q : i = j
  · rw [q, upd_s]
  · rw [upd_n q]
/-- what the reference holds -/
theorem q_held {n k : Nat} (hn : 100 ≤ n) {s : zS} : ∃ g, (∀ j, j < 16 → g j = s 11 j) ∧ ∃ f1, m_X8_influence_j42 n n (nI k) 0 s = m_X8_influence_j42 n (f1 + 1) (nI k) (nI 16) (zSt s 16 g) := by
  obtain ⟨g, f1, hf1, hI, e1⟩ := for_up (fun f j (g : Nat → Int32) => m_X8_influence_j42 n f (nI k) (nI j) (zSt s 16 g)) (fun i g => ∀ j, j < i → g j = s 11 j) 16 (by
    intro f j g hj hg
    refine ⟨upd g j (s 11 j), fun i hi => ?_, ?_⟩
    · by_cases q : i = j
      · rw [q, upd_s]
      · rw [upd_n q]; exact hg i (by omega)
    · show m_X8_influence_j42 n (f + 1) (nI k) (nI j) (zSt s 16 g) = m_X8_influence_j42 n f (nI k) (nI (j + 1)) (zSt s 16 (upd g j (s 11 j)))
      rw [m_X8_influence_j42, if_neg (n16 hj), zRd_n (by omega) (by decide), zSt_n (c := 11) (by decide), zWr_n hj (by decide), zSt_u, zLt_e, nI_s]) 16 n 0 (s 16) (by omega) (by omega) (fun j hj => absurd hj (Nat.not_lt_zero j))
  refine ⟨g, hI, f1 - 1, ?_⟩
  rw [zSt_i] at e1
  rw [show f1 - 1 + 1 = f1 by omega]
  exact e1
theorem zVr_c {n : Nat} {m m' : zS} {o : Nat → Nat} {tx : Int32 → Int32} {tot : Int32} (h : zVr n m o tx tot) (h0 : m' 0 = m 0) (h1 : m' 1 = m 1) (h2 : m' 2 = m 2) (h3 : m' 3 = m 3) (h5 : m' 5 = m 5) (h6 : m' 6 = m 6) (h7 : m' 7 = m 7) (h4 : ∀ k, k < 16 → zBn (m' 4 k)) : zVr n m' o tx tot := by
  obtain ⟨a, b, c, d, e, _⟩ := h
  unfold zVr
  rw [h0, h1, h2, h3, h5, h6, h7]
  exact ⟨a, b, c, d, e, h4⟩
theorem C_influence {n y : Nat} (hn : 100 ≤ n) {v1 : Int32} (x m : zS) (h : zInv y x m) : zCall y [(1, 1)] (m_X7_influence n v1 x) (m_X8_influence n v1 m) := by
  unfold m_X7_influence m_X8_influence
  rcases line_cases n v1 with ⟨k, hk, rfl, c1, c2⟩ | ⟨c1, c2⟩
  · rw [c1, zBx_e, c2, zBd_e, if_neg ne10, p_kind, zBd_e, a16 hk]
    unfold m_X8_influence_j13
    rw [zLt_e, zU_eq, if_neg (show ¬ (0 : Int32) < 0 by decide), zRd_n hk (by decide), zU_ne (a := 1) (by decide), ← h.1.1]
    by_cases h0 : x 2 k = 0
    · rw [if_pos h0, if_pos h0]
      obtain ⟨tx, tot, hV, hR⟩ := inv_tt hn (zInv_t h 0)
      obtain ⟨⟨j2, j3, j4, j5⟩, ⟨k1, k2, _, _, _, k6⟩, _, _, _, i6, i7⟩ := id (zInv_t h 0)
      obtain ⟨e, e', w, w1, w2, w3, w4, w5⟩ := inv_work hn (zInv_t h 0)
      obtain ⟨a, ha, ea⟩ := k6 k hk
      -- the class, once more
      have hV' : zVs n (zXe x e) tx tot := zVs_c hV (fun c hc => zXe_n (by omega) (by omega))
      have zoe : zo (zXe x e) = zo x := zo_c (zXe_n (by decide) (by decide))
      obtain ⟨eb, b1, b2, b3⟩ := p_workOutb hn (nI k) hV' w3.2.2.2.2.2.1.2
      rw [zoe, zXe_n (c := 2) (by decide) (by decide), zXe_n (c := 3) (by decide) (by decide), zXe_n (c := 4) (by decide) (by decide), zXe_n (c := 5) (by decide) (by decide), zAn_u hk] at b3
      -- the reference, once more
      obtain ⟨g, g1, f1, g2⟩ := q_held (n := n) (k := k) (s := zS2 (zU m 0 23 0) e' w) hn
      generalize hM : zS2 (zU m 0 23 0) e' w = M at w2 w3 g1 g2
      have hM11 : M 11 = e' := by rw [← hM, zS2_v]
      have M0 : M 0 23 = 0 := by rw [← hM, zS2_th]
      have M1 : ∀ c, c ≠ 0 → c ≠ 11 → c ≠ 12 → M c = m c := fun c a1 a2 a3 => by rw [← hM, zS2_n a2 a3, zU_ne a1]
      have X4 : zU m 0 23 0 4 = m 4 := zU_ne (by decide)
      have M4 : M 4 k = nI a := by rw [M1 4 (by decide) (by decide) (by decide), ← X4, ← j5]; exact ea
      generalize hA : zU (zSt M 16 g) 4 k (nI a + 1) = A
      have A_n : ∀ c, c ≠ 16 → c ≠ 4 → A c = M c := fun c a1 a2 => by rw [← hA, zU_ne a2, zSt_n a1]
      have A4 : A 4 = upd (x 5) k (x 5 k + 1) := by rw [← hA, zU_k, zSt_n (by decide), M1 4 (by decide) (by decide) (by decide), ← X4, ← j5, ea]
      have hRm : zVr n M (zo x) tx tot := by rw [← hM]; exact zVr_2 hR e' w
      have hRA : zVr n A (zo x) tx tot := zVr_c hRm (A_n 0 (by decide) (by decide)) (A_n 1 (by decide) (by decide)) (A_n 2 (by decide) (by decide)) (A_n 3 (by decide) (by decide)) (A_n 5 (by decide) (by decide)) (A_n 6 (by decide) (by decide)) (A_n 7 (by decide) (by decide)) (fun i hi => by
        rw [A4]
        by_cases q : i = k
        · rw [q, upd_s, ea, nI_s]; exact ⟨_, by omega, rfl⟩
        · rw [upd_n q]
          obtain ⟨b, hb, eb⟩ := k6 i hi
          exact ⟨b, by omega, eb⟩)
      obtain ⟨e3, w', q1, q2, q3, q4⟩ := q_solves (fx := -1) (its := 0) hn hRA (by rw [A_n 11 (by decide) (by decide)]; exact w3.2.2.2.2.2.2.1) (by rw [A_n 12 (by decide) (by decide)]; exact w3.2.2.2.2.2.2.2) (fun i hi q => absurd q (zn_L hi)) zBn_0
      have same : ∀ i, i < 16 → e3 i = eb i := by
        intro i hi
        refine q4 (fun _ => True) eb ?_ i hi trivial
        have Y : ∀ c, c ≠ 0 → c ≠ 4 → c ≠ 11 → c ≠ 12 → c ≠ 16 → A c = zU m 0 23 0 c := fun c a1 a2 a3 a4 a5 => by rw [A_n c a5 a2, M1 c a1 a3 a4, zU_ne a1]
        rw [A4, Y 1 (by decide) (by decide) (by decide) (by decide) (by decide), Y 2 (by decide) (by decide) (by decide) (by decide) (by decide), Y 3 (by decide) (by decide) (by decide) (by decide) (by decide), ← j2, ← j3, ← j4]
        exact v_all (its := 0) k1 b2 b3
      rw [w1, zBd_e, b1, zBd_e, p_count (a := e) (b := eb) hn (fun i _ => by rw [zSt_n (by decide), zU_ne (by decide), zXe_e]) (fun i _ => by rw [zSt_s]), w2, zBd_e, g2, m_X8_influence_j42, if_pos n16e, zRd_n hk (by decide), zSt_n (c := 4) (by decide), M4, zWr_n hk (by decide), hA, q1, zBd_e, zRd_n hk (by decide), zS2_n (c := 4) (by decide) (by decide), A4, upd_s, ea, zWr_n hk (by decide), Int32.add_sub_cancel]
      rw [q_count (a := e3) (b := e') hn (fun i _ => by rw [zU_ne (by decide), zS2_v]) (fun i hi => by rw [zU_ne (by decide), zS2_n (by decide) (by decide), ← hA, zU_ne (by decide), zSt_s, g1 i hi, hM11])]
      have B_n : ∀ c, c ≠ 4 → c ≠ 11 → c ≠ 12 → c ≠ 16 → zU (zS2 A e3 w') 4 k (nI a) c = M c := fun c a1 a2 a3 a4 => by rw [zU_ne a1, zS2_n a2 a3, A_n c a4 a1]
      have B4 : zU (zS2 A e3 w') 4 k (nI a) 4 = M 4 := by rw [zU_k, zS2_n (by decide) (by decide), A4, upd_2, ← ea, upd_self, j5, X4, M1 4 (by decide) (by decide) (by decide)]
      refine Or.inl ⟨_, _, _, rfl, ?_, ?_, zInv_c w3 (fun c a1 a2 a3 => by rw [zSt_n (by omega), zU_ne (by omega)]) ⟨?_, ?_⟩ (fun c a1 a2 => ?_) (B_n 18 (by decide) (by decide) (by decide) (by decide)) (fun j _ _ => by rw [B_n 0 (by decide) (by decide) (by decide) (by decide)]) ⟨?_, ?_⟩⟩
      · congr 1
        congr 1
        exact zDf_c 16 (fun j hj => ⟨same j hj, w4 j hj⟩)
      · rw [B_n 0 (by decide) (by decide) (by decide) (by decide), M0]
      · rw [zSt_n (by decide), zU_ne (by decide)]; exact w3.2.2.2.2.2.1.1
      · rw [zSt_s]; exact b2
      · by_cases q : c = 4
        · rw [q, B4]
        · exact B_n c q (by omega) (by omega) (by omega)
      · rw [zU_ne (by decide), zS2_v]; exact q2
      · rw [zU_ne (by decide), zS2_w]; exact q3
    · rw [if_neg h0, if_neg h0]
      exact Or.inl ⟨_, _, _, rfl, rfl, zU_eq, zInv_t h 0⟩
  · rw [c1, zBx_t, c2, zBd_e, if_pos rfl]
    refine Or.inr ⟨1, 1, 0, _, zU m 0 23 1, fun _ _ => rfl, by decide, rfl, ?_, zU_eq, zInv_t h _⟩
    unfold m_X8_influence_j13
    rw [zLt_e, zU_eq, if_pos (by decide)]; rfl
end PIn
end
section
section PCc
/-! calls on brackets -/
theorem zInv_3 {y : Nat} {x m x' m' : zS} (h : zInv y x m) (i3' : zI3 x' m') (hx : ∀ c, c ≠ 10 → c ≠ 11 → c ≠ 12 → x' c = x c) (hm : ∀ c, c ≠ 0 → c ≠ 5 → c ≠ 6 → m' c = m c) (h0 : ∀ j, j ≠ 4 → j ≠ 23 → m' 0 j = m 0 j) : zInv y x' m' := by
  obtain ⟨i1, i2, _, i4, i5, i6, i7⟩ := h
  exact ⟨zI1_c i1 (hx 2 (by decide) (by decide) (by decide)) (hx 3 (by decide) (by decide) (by decide)) (hx 4 (by decide) (by decide) (by decide)) (hx 5 (by decide) (by decide) (by decide)) (hm 1 (by decide) (by decide) (by decide)) (hm 2 (by decide) (by decide) (by decide)) (hm 3 (by decide) (by decide) (by decide)) (hm 4 (by decide) (by decide) (by decide)),
    zI2_c i2 (hx 2 (by decide) (by decide) (by decide)) (hx 3 (by decide) (by decide) (by decide)) (hx 4 (by decide) (by decide) (by decide)) (hx 5 (by decide) (by decide) (by decide)) (hx 7 (by decide) (by decide) (by decide)) (hx 8 (by decide) (by decide) (by decide)) (hx 9 (by decide) (by decide) (by decide)), i3',
    zI4_c i4 (hx 13 (by decide) (by decide) (by decide)) (hx 14 (by decide) (by decide) (by decide)) (hx 15 (by decide) (by decide) (by decide)) (h0 7 (by decide) (by decide)) (h0 8 (by decide) (by decide)) (hm 7 (by decide) (by decide) (by decide)) (hm 8 (by decide) (by decide) (by decide)),
    zI5_c i5 (hx 16 (by decide) (by decide) (by decide)) (hx 17 (by decide) (by decide) (by decide)) (hx 18 (by decide) (by decide) (by decide)) (hx 20 (by decide) (by decide) (by decide)) (h0 11 (by decide) (by decide)) (hm 9 (by decide) (by decide) (by decide)) (hm 10 (by decide) (by decide) (by decide)) (hm 18 (by decide) (by decide) (by decide)),
    zI6_c i6 (hx 22 (by decide) (by decide) (by decide)) (hx 24 (by decide) (by decide) (by decide)), zI7_c i7 (hm 11 (by decide) (by decide) (by decide)) (hm 12 (by decide) (by decide) (by decide))⟩
theorem C_taxOn {n y : Nat} (hn : 100 ≤ n) {v1 : Int32} (x m : zS) (h : zInv y x m) : zCall y [(2, 1)] (m_X7_taxOn n v1 x) (m_X8_taxOn n v1 m) := by
  obtain ⟨tx, tot, hV, hR⟩ := inv_tt hn (zInv_t h 0)
  unfold m_X7_taxOn m_X8_taxOn
  rcases in_cases 0 1000000000 0 1000000000 rfl rfl (by omega) (by omega) v1 with ⟨a, _, ha, rfl, d1, d2⟩ | ⟨d1, d2⟩
  · rw [d1, zBd_e, ca1, zBx_e, hV.2.2.2.2.1 x rfl rfl rfl _ ⟨a, ha, rfl⟩, zBd_e, d2, zBd_e, if_neg ne10]
    unfold m_X8_taxOn_j16
    rw [zLt_e, zU_eq, if_pos le00, hR.2.1 _ rfl rfl rfl _ ⟨a, ha, rfl⟩, zBd_e]
    exact Or.inl ⟨_, _, _, rfl, rfl, zU_eq, zInv_t h 0⟩
  · rw [d1, zBd_e, ca0, zBx_t, d2, zBd_e, if_pos rfl]
    refine Or.inr ⟨2, 1, 0, _, zU m 0 23 1, fun _ _ => rfl, by decide, rfl, ?_, zU_eq, zInv_t h _⟩
    unfold m_X8_taxOn_j16
    rw [zLt_e, zU_eq, if_neg (by decide)]; rfl
theorem C_dropBrackets {n y : Nat} (x m : zS) (h : zInv y x m) : zDir y (m_X7_dropBrackets n x) (m_X8_dropBrackets n m) := by
  obtain ⟨c, c1, c2, _⟩ := h.2.2.1
  refine ⟨nI c, zU x 10 2 0, zU (zU m 0 23 0) 0 4 0, ?_, ?_, zInv_3 h ⟨0, (zU_eq : zU x 10 2 0 10 2 = 0), (zU_eq : zU (zU m 0 23 0) 0 4 0 0 4 = 0), ⟨by decide, fun i hi => absurd hi (Nat.not_lt_zero i)⟩, ⟨by decide, fun i hi => absurd hi (Nat.not_lt_zero i)⟩, fun i j _ hj => absurd hj (Nat.not_lt_zero j), fun i j hi => absurd hi (Nat.not_lt_zero i), (show List.Perm ([] : List (Nat × Nat)) [] from List.Perm.refl _)⟩ (fun c a1 _ _ => zU_ne a1) (fun c a1 _ _ => by rw [zU_ne a1, zU_ne a1]) (fun j a1 a2 => by rw [zU_nj a1, zU_nj a2])⟩
  · unfold m_X7_dropBrackets m_X1_size m_X1_clear
    rw [zBd_r, zLt_e, zBd_r, c1]; rfl
  · unfold m_X8_dropBrackets
    rw [zLt_e, zLt_e, zLt_e, zU_nj (by decide), c2]; rfl
theorem C_bracket {n y : Nat} (hn : 100 ≤ n) {v1 v2 : Int32} (x m : zS) (h : zInv y x m) : zCall y [(2, 1), (3, 2)] (m_X7_bracket n v1 v2 x) (m_X8_bracket n v1 v2 m) := by
  have bad : zCall y [(2, 1), (3, 2)] (m_X7_bracket_j26 n v1 v2 0 x) (m_X8_bracket_j27 n v1 v2 1 m) := by
    unfold m_X7_bracket_j26 m_X8_bracket_j27
    rw [ca0, zBx_t, zLt_e, zU_eq, if_neg (by decide)]
    exact Or.inr ⟨2, 1, 0, _, zU m 0 23 1, fun _ _ => rfl, by decide, rfl, rfl, zU_eq, zInv_t h _⟩
  unfold m_X7_bracket m_X8_bracket
  rcases in_cases 0 1000000 0 1000000 rfl rfl (by omega) (by omega) v1 with ⟨t, _, ht, rfl, d1, d2⟩ | ⟨d1, d2⟩
  · rw [d1, zBd_e, d2, zBd_e, if_neg ne10, if_neg ne10]
    rcases in_cases 0 1000 0 1000 rfl rfl (by omega) (by omega) v2 with ⟨r, _, hr, rfl, g1, g2⟩ | ⟨g1, g2⟩
    · rw [g1, zBd_e, g2, zBd_e, if_neg ne10, if_neg ne10]
      obtain ⟨c, c1, c2, c3, c4, c5, c6, c7⟩ := h.2.2.1
      have hc := c3.1
      obtain ⟨a, hI, ef⟩ := q_find (n := n) (c := c) (t := t) (s := zU m 0 23 0) hn (nI r) (by rw [zU_nj (by decide)]; exact c2) hc
      rw [zU_ne (a := 5) (by decide)] at hI
      obtain ⟨p, hp, pf, lt, ge⟩ := p_placeFor (n := n) (s := x) hn c1 c3 ht
      have ia := p_isAt (n := n) (s := x) c1 c3 hp ht
      have hth := perm_th (t := t) c7
      unfold m_X7_bracket_j26 m_X8_bracket_j27
      rw [ca1, zBx_e, zLt_e, zU_eq, if_pos le00, zLt_e, zU_nj (by decide), c2, ef]
      have room : ∀ b : Int32, m_X1_hasRoomFor n (nI t) x = some (if c < 5 ∨ (p < c ∧ zN (x 11 p) = t) then 1 else 0, x) := by
        intro _
        unfold m_X1_hasRoomFor
        rw [c1]
        by_cases q : c < 5
        · rw [if_pos (show nI c < (5 : Int32) from (lt_n (b := 5) (by omega) (by omega)).mpr q), if_pos (Or.inl q)]; rfl
        · rw [if_neg (show ¬ nI c < (5 : Int32) from fun e => q ((lt_n (b := 5) (by omega) (by omega)).mp e)), pf, zBd_e, ia, zBd_e]
          by_cases q2 : p < c ∧ zN (x 11 p) = t
          · rw [if_pos q2, if_neg (by decide), if_pos (Or.inr q2)]; rfl
          · rw [if_neg q2, if_pos rfl, if_neg (fun e => e.elim q q2)]; rfl
      rw [room 0, zBd_e]
      rcases hI with ⟨i1, i2⟩ | ⟨i1, i2⟩
      · -- there is one with the threshold
        have hat : zN (m 5 a) = t := by rw [i2, zN_n (by omega)]
        obtain ⟨i, hi, ei⟩ := hth.mpr ⟨a, i1, hat⟩
        have hip : p = i := by
          rcases Nat.lt_trichotomy p i with q | q | q
          · have := c5 p i q hi; have := ge (by omega); omega
          · exact q
          · have := lt i q; omega
        subst hip
        rw [if_pos (Or.inr ⟨hi, ei⟩), cs1, zBx_e]
        rw [if_pos ⟨hi, ei⟩] at ia
        have est : m_X1_set n (nI t) (nI r) x = some (0, zU x 12 p (nI r)) := by
          unfold m_X1_set
          rw [pf, zBd_e, ia, zBd_e, if_neg ne10, p_put (by omega) (by decide), zBd_e]; rfl
        rw [est, zBd_e]
        unfold m_X1_size
        rw [zBd_r, zU_ne (a := 10) (by decide), c1, if_neg (fun e => by have := (eq_n (b := 5) (by omega) (by omega)).mp e; omega)]
        unfold m_X8_bracket_j91
        rw [zLt_e, zU_eq, if_pos le00, zWr_n (by omega) (by decide), zWr_n (by omega) (by decide)]
        have e04 : (zU (zU (zU (zU m 0 23 0) 0 23 0) 5 a (nI t)) 6 a (nI r)) 0 4 = nI c := by rw [zU_ne (by decide), zU_ne (by decide), zU_nj (by decide), zU_nj (by decide)]; exact c2
        rw [e04, if_neg (fun e => by have := (eq_n (by omega) (by omega)).mp e; omega), zLt_e, zU_eq, Int32.add_zero]
        refine Or.inl ⟨_, _, _, rfl, rfl, ?_, zInv_3 h ⟨c, ?_, zU_eq, ?_, ?_, ?_, ?_, ?_⟩ (fun k _ _ k3 => zU_ne k3) (fun k k1 k2 k3 => by rw [zU_ne k1, zU_ne k3, zU_ne k2, zU_ne k1, zU_ne k1]) (fun j j1 j2 => by rw [zU_nj j1, zU_ne (by decide), zU_ne (by decide), zU_nj j2, zU_nj j2])⟩
        · rw [zU_nj (by decide), zU_ne (by decide), zU_ne (by decide), zU_eq]
        · rw [zU_ne (by decide)]; exact c1
        all_goals have n11 : zU x 12 p (nI r) 11 = x 11 := zU_ne (by decide)
        all_goals have n12 : zU x 12 p (nI r) 12 = upd (x 12) p (nI r) := zU_k
        all_goals have m5 : zU (zU (zU (zU (zU m 0 23 0) 0 23 0) 5 a (nI t)) 6 a (nI r)) 0 4 (nI c) 5 = m 5 := by rw [zU_ne (by decide), zU_ne (by decide), zU_k, zU_ne (by decide), zU_ne (by decide), ← i2, upd_self]
        all_goals have m6 : zU (zU (zU (zU (zU m 0 23 0) 0 23 0) 5 a (nI t)) 6 a (nI r)) 0 4 (nI c) 6 = upd (m 6) a (nI r) := by rw [zU_ne (by decide), zU_k, zU_ne (by decide), zU_ne (by decide), zU_ne (by decide)]
        · rw [n11, n12]
          refine ⟨hc, fun j hj => ⟨(c3.2 j hj).1, ?_⟩⟩
          by_cases q : j = p
          · rw [q, upd_s]; exact ⟨r, hr, rfl⟩
          · rw [upd_n q]; exact (c3.2 j hj).2
        · rw [m5, m6]
          refine ⟨hc, fun j hj => ⟨(c4.2 j hj).1, ?_⟩⟩
          by_cases q : j = a
          · rw [q, upd_s]; exact ⟨r, hr, rfl⟩
          · rw [upd_n q]; exact (c4.2 j hj).2
        · rw [n11]; exact c5
        · rw [m5]; exact c6
        · rw [n11, n12, m5, m6, zLs_map hr ei (fun j hj e => by
            rcases Nat.lt_trichotomy j p with q | q | q
            · have := c5 j p q hi; omega
            · exact q
            · have := c5 p j q hj; omega), zLs_map hr hat (fun j hj e => c6 j a hj i1 (by rw [e, hat]))]
          exact c7.map _
      · -- there is none
        have none1 : ¬ (p < c ∧ zN (x 11 p) = t) := fun q => by
          obtain ⟨j, hj, ej⟩ := hth.mp ⟨p, q.1, q.2⟩
          exact i2 j hj (by rw [(zBb_n c4 hj).1.2, ej])
        subst i1
        rw [if_neg none1] at ia
        by_cases q5 : a < 5
        · rw [if_pos (Or.inl q5), cs1, zBx_e]
          obtain ⟨s', r1, r2, r3, r4, r5⟩ := p_shift (n := n) (c := a) (p := p) (t := t) (r := r) (s := x) q5 (a - p) n x (by omega) (by omega) c1
          rw [show p + (a - p) = a by omega] at r1
          have est : m_X1_set n (nI t) (nI r) x = some (0, s') := by
            unfold m_X1_set
            rw [pf, zBd_e, ia, zBd_e, if_pos rfl, zLt_e, c1]
            exact r1
          rw [est, zBd_e]
          unfold m_X1_size
          rw [zBd_r, r4, upd_s, if_neg (fun e => by have := (eq_n (b := 5) (by omega) (by omega)).mp e; omega)]
          unfold m_X8_bracket_j91
          rw [zLt_e, zU_eq, if_pos le00, zWr_n (by omega) (by decide), zWr_n (by omega) (by decide)]
          have e04 : (zU (zU (zU (zU m 0 23 0) 0 23 0) 5 a (nI t)) 6 a (nI r)) 0 4 = nI a := by rw [zU_ne (by decide), zU_ne (by decide), zU_nj (by decide), zU_nj (by decide)]; exact c2
          rw [e04, if_pos rfl, zLt_e, zU_eq, nI_s]
          have m5 : zU (zU (zU (zU (zU m 0 23 0) 0 23 0) 5 a (nI t)) 6 a (nI r)) 0 4 (nI (a + 1)) 5 = upd (m 5) a (nI t) := by rw [zU_ne (by decide), zU_ne (by decide), zU_k, zU_ne (by decide), zU_ne (by decide)]
          have m6 : zU (zU (zU (zU (zU m 0 23 0) 0 23 0) 5 a (nI t)) 6 a (nI r)) 0 4 (nI (a + 1)) 6 = upd (m 6) a (nI r) := by rw [zU_ne (by decide), zU_k, zU_ne (by decide), zU_ne (by decide), zU_ne (by decide)]
          refine Or.inl ⟨_, _, _, rfl, rfl, ?_, zInv_3 h ⟨a + 1, by rw [r4, upd_s], zU_eq, ?_, ?_, ?_, ?_, ?_⟩ (fun k k1 k2 k3 => r5 k k1 k2 k3) (fun k k1 k2 k3 => by rw [zU_ne k1, zU_ne k3, zU_ne k2, zU_ne k1, zU_ne k1]) (fun j j1 j2 => by rw [zU_nj j1, zU_ne (by decide), zU_ne (by decide), zU_nj j2, zU_nj j2])⟩
          · rw [zU_nj (by decide), zU_ne (by decide), zU_ne (by decide), zU_eq]
          · rw [r2, r3]; exact ins_bb c3 q5 hp ht hr
          · rw [m5, m6]
            refine ⟨by omega, fun j hj => ?_⟩
            by_cases q : j = a
            · rw [q, upd_s, upd_s]; exact ⟨⟨t, ht, rfl⟩, r, hr, rfl⟩
            · rw [upd_n q, upd_n q]; exact c4.2 j (by omega)
          · rw [r2]
            exact ins_sorted (B := x 12) c5 hp ht lt (fun q => by
              have := ge q
              rcases Nat.lt_or_ge t (zN (x 11 p)) with w | w
              · exact w
              · exact absurd ⟨q, by omega⟩ none1)
          · rw [m5]
            have ne : ∀ j, j < a → ¬ zN (m 5 j) = t := fun j hj e => i2 j hj (by rw [(zBb_n c4 hj).1.2, e])
            intro i j hi hj e
            by_cases q1 : i = a
            · by_cases q2 : j = a
              · omega
              · rw [q1, upd_s, upd_n q2, zN_n (by omega)] at e
                exact absurd e.symm (ne j (by omega))
            · by_cases q2 : j = a
              · rw [q2, upd_s, upd_n q1, zN_n (by omega)] at e
                exact absurd e (ne i (by omega))
              · rw [upd_n q1, upd_n q2] at e
                exact c6 i j (by omega) (by omega) e
          · rw [r2, r3, m5, m6, zLs_s (A := upd (m 5) a (nI t)), upd_s, upd_s, zN_n (by omega), zN_n (by omega), zLs_c (A := upd (m 5) a (nI t)) (B := upd (m 6) a (nI r)) (A' := m 5) (B' := m 6) (fun i hi => by rw [upd_n (by omega), upd_n (by omega)]; exact ⟨rfl, rfl⟩)]
            have := zLs_ins (A := x 11) (B := x 12) (p := p) ht hr (a - p)
            rw [show p + (a - p) = a by omega] at this
            exact this.trans ((List.Perm.cons _ c7).trans (List.perm_append_singleton _ _).symm)
        · rw [if_neg (fun e => e.elim q5 none1), cs0, zBx_t, if_pos (by rw [show a = 5 by omega]; rfl)]
          refine Or.inr ⟨3, 2, 0, _, zU (zU m 0 23 0) 0 23 2, fun _ _ => rfl, by decide, rfl, ?_, zU_eq, zInv_t (zInv_t h _) _⟩
          unfold m_X8_bracket_j91
          rw [zLt_e, zU_eq, if_neg (by decide)]; rfl
    · rw [g1, zBd_e, g2, zBd_e, if_pos rfl, if_pos rfl]
      exact bad
  · rw [d1, zBd_e, d2, zBd_e, if_pos rfl, if_pos rfl]
    exact bad
end PCc
end
section
section PCd
/-! calls on amounts and years -/
theorem zInv_4 {y z : Nat} {x m x' m' : zS} (h : zInv y x m) (i4' : zI4 z x' m') (hx : ∀ c, c ≠ 13 → c ≠ 14 → c ≠ 15 → x' c = x c) (hm : ∀ c, c ≠ 0 → c ≠ 7 → c ≠ 8 → m' c = m c) (h0 : ∀ j, j ≠ 7 → j ≠ 8 → j ≠ 23 → m' 0 j = m 0 j) : zInv z x' m' := by
  obtain ⟨i1, i2, i3, _, i5, i6, i7⟩ := h
  exact ⟨zI1_c i1 (hx 2 (by decide) (by decide) (by decide)) (hx 3 (by decide) (by decide) (by decide)) (hx 4 (by decide) (by decide) (by decide)) (hx 5 (by decide) (by decide) (by decide)) (hm 1 (by decide) (by decide) (by decide)) (hm 2 (by decide) (by decide) (by decide)) (hm 3 (by decide) (by decide) (by decide)) (hm 4 (by decide) (by decide) (by decide)),
    zI2_c i2 (hx 2 (by decide) (by decide) (by decide)) (hx 3 (by decide) (by decide) (by decide)) (hx 4 (by decide) (by decide) (by decide)) (hx 5 (by decide) (by decide) (by decide)) (hx 7 (by decide) (by decide) (by decide)) (hx 8 (by decide) (by decide) (by decide)) (hx 9 (by decide) (by decide) (by decide)),
    zI3_c i3 (by rw [hx 10 (by decide) (by decide) (by decide)]) (hx 11 (by decide) (by decide) (by decide)) (hx 12 (by decide) (by decide) (by decide)) (h0 4 (by decide) (by decide) (by decide)) (hm 5 (by decide) (by decide) (by decide)) (hm 6 (by decide) (by decide) (by decide)), i4',
    zI5_c i5 (hx 16 (by decide) (by decide) (by decide)) (hx 17 (by decide) (by decide) (by decide)) (hx 18 (by decide) (by decide) (by decide)) (hx 20 (by decide) (by decide) (by decide)) (h0 11 (by decide) (by decide) (by decide)) (hm 9 (by decide) (by decide) (by decide)) (hm 10 (by decide) (by decide) (by decide)) (hm 18 (by decide) (by decide) (by decide)),
    zI6_c i6 (hx 22 (by decide) (by decide) (by decide)) (hx 24 (by decide) (by decide) (by decide)), zI7_c i7 (hm 11 (by decide) (by decide) (by decide)) (hm 12 (by decide) (by decide) (by decide))⟩
theorem C_carried {n y : Nat} (hn : 100 ≤ n) (x m : zS) (h : zInv y x m) : zDir y (m_X7_carried n x) (m_X8_carried n m) := by
  obtain ⟨tx, tot, hV, hR⟩ := inv_tt hn (zInv_t h 0)
  refine ⟨tot, x, zU m 0 23 0, ?_, ?_, zInv_t h 0⟩
  · unfold m_X7_carried
    rw [hV.2.2.2.2.2.1 x rfl rfl, zBd_e]; rfl
  · unfold m_X8_carried
    rw [zLt_e, hR.2.2.1 _ rfl rfl, zBd_e]; rfl
theorem C_year {n y : Nat} (x m : zS) (h : zInv y x m) : zDir y (m_X7_year n x) (m_X8_year n m) := by
  obtain ⟨u, u1, u2, u3⟩ := h.2.2.2.1.2.1
  refine ⟨nI u, x, zU m 0 23 0, ?_, ?_, zInv_t h 0⟩
  · unfold m_X7_year m_X0_now
    rw [zBd_r, u2]; rfl
  · unfold m_X8_year
    rw [zLt_e, zU_nj (by decide), u3]; rfl
theorem q_place {n c : Nat} (hc : c ≤ 8) (v : Int32) (s : zS) : (∃ j, j < c ∧ v = nI j ∧ m_X8_isIn n v 0 (nI c - 1) s = some (1, s)) ∨ ((v < 0 ∨ nI c ≤ v) ∧ m_X8_isIn n v 0 (nI c - 1) s = some (0, s)) := by
  unfold m_X8_isIn
  rcases pk_ix v (n := c) (by omega) with q | q | ⟨j, hj, rfl⟩
  · refine Or.inr ⟨Or.inl q, ?_⟩
    rw [if_pos q]; rfl
  · refine Or.inr ⟨Or.inr q, ?_⟩
    have h0 : ¬ v < 0 := Int32.not_lt.mpr (Int32.le_trans (nI_pos' (by omega)) q)
    obtain ⟨w, hw, rfl⟩ := nI_of h0
    have hcw : c ≤ w := (le_n (by omega) hw).mp q
    have : nI c - (1 : Int32) < nI w := by
      rw [Int32.lt_iff_toInt_lt, show (1 : Int32) = nI 1 from rfl, pk_sub_toInt (by omega) (by omega), nI_toInt hw]
      omega
    rw [if_neg h0, if_pos this]; rfl
  · refine Or.inl ⟨j, hj, rfl, ?_⟩
    obtain ⟨d, rfl⟩ : ∃ d, c = d + 1 := ⟨c - 1, by omega⟩
    rw [nI_pred, if_neg (nI_pos (by omega)), if_neg (nI_nlt (by omega) (by omega))]; rfl
theorem C_carriedAt {n y : Nat} {v1 : Int32} (x m : zS) (h : zInv y x m) : zCall y [(1, 1)] (m_X7_carriedAt n v1 x) (m_X8_carriedAt n v1 m) := by
  obtain ⟨c, hc, e1, e2⟩ := h.2.2.2.1.1
  have bad : zCall y [(1, 1)] (some (.inr 1, x)) (m_X8_carriedAt_j20 n v1 1 m) := by
    unfold m_X8_carriedAt_j20
    rw [zLt_e, zU_eq, if_neg (by decide)]
    exact Or.inr ⟨1, 1, 0, _, zU m 0 23 1, fun _ _ => rfl, by decide, rfl, rfl, zU_eq, zInv_t h _⟩
  unfold m_X7_carriedAt m_X8_carriedAt m_X0_size
  rw [e2]
  rcases q_place (n := n) hc v1 m with ⟨j, hj, rfl, k1⟩ | ⟨k0, k1⟩
  · rw [if_neg (nI_pos (by omega)), zBd_r, e1, if_neg (nI_ge hj (by omega)), cp1, zBx_e, p_leftAt, zBd_e, a8 (by omega), k1, zBd_e, if_neg ne10]
    unfold m_X8_carriedAt_j20
    rw [zLt_e, zU_eq, if_pos le00, zRd_n (by omega) (by decide), zU_ne (a := 7) (by decide), ← h.2.2.2.1.2.2.1]
    exact Or.inl ⟨_, _, _, rfl, rfl, zU_eq, zInv_t h 0⟩
  · rw [k1, zBd_e, if_pos rfl]
    by_cases q : v1 < 0
    · rw [if_pos q, cp0, zBx_t]
      exact bad
    · rw [if_neg q, zBd_r, e1, if_pos (k0.resolve_left q), cp0, zBx_t]
      exact bad
theorem C_carry {n y : Nat} (hn : 100 ≤ n) (hy : y ≤ 1000) {v1 v2 : Int32} (x m : zS) (h : zInv y x m) : zCall y [(2, 1), (3, 2)] (m_X7_carry n v1 v2 x) (m_X8_carry n v1 v2 m) := by
  obtain ⟨⟨c, hc, e1, e2⟩, ⟨u, u1, u2, u3⟩, t14, t15, tb⟩ := id h.2.2.2.1
  have bad : zCall y [(2, 1), (3, 2)] (m_X7_carry_j35 n v1 v2 0 x) (m_X8_carry_j35 n v1 v2 1 m) := by
    unfold m_X7_carry_j35 m_X8_carry_j35
    rw [ca0, zBx_t, zLt_e, zU_eq, if_neg (by decide)]
    exact Or.inr ⟨2, 1, 0, _, zU m 0 23 1, fun _ _ => rfl, by decide, rfl, rfl, zU_eq, zInv_t h _⟩
  unfold m_X7_carry m_X8_carry m_X0_now
  rw [zBd_r, u2]
  rcases in_cases 1 1000000 1 1000000 rfl rfl (by omega) (by omega) v1 with ⟨a, a0, ha, rfl, d1, d2⟩ | ⟨d1, d2⟩
  · rw [d1, zBd_e, d2, zBd_e, if_neg ne10, if_neg ne10, u3, p_isWithin, zBd_e, show nI u + (20 : Int32) = nI (u + 20) from nI_add u 20]
    by_cases q : nI u ≤ v2 ∧ v2 ≤ nI (u + 20)
    · have h0 : ¬ v2 < 0 := Int32.not_lt.mpr (Int32.le_trans (nI_pos' (by omega)) q.1)
      obtain ⟨w, hw, rfl⟩ := nI_of h0
      have w1 : u ≤ w := (le_n (by omega) hw).mp q.1
      have w2 : w ≤ u + 20 := (le_n hw (by omega)).mp q.2
      rw [if_pos q, if_neg ne10, if_neg (nI_nlt w1 (by omega)), n_sub w1, if_neg (show ¬ (20 : Int32) < nI (w - u) from nI_nlt (a := 20) (by omega) (by decide))]
      unfold m_X7_carry_j35 m_X8_carry_j35 m_X0_size
      rw [ca1, zBx_e, zBd_r, e1, zLt_e, zU_eq, if_pos le00, zU_nj (by decide), e2]
      by_cases c8 : c = 8
      · rw [c8, if_pos (show (8 : Int32) ≤ nI 8 by decide), if_pos (show nI 8 = (8 : Int32) from rfl)]
        unfold m_X7_carry_j55 m_X8_carry_j62
        rw [cs0, zBx_t, zLt_e, zU_eq, if_neg (by decide)]
        exact Or.inr ⟨3, 2, 0, _, _, fun _ _ => rfl, by decide, rfl, rfl, zU_eq, zInv_t (zInv_t h _) _⟩
      · rw [if_neg (show ¬ (8 : Int32) ≤ nI c from nI_ge (b := 8) (by omega) (by decide)), if_neg (show ¬ nI c = (8 : Int32) from fun e => c8 ((eq_n (b := 8) (by omega) (by decide)).mp e))]
        unfold m_X7_carry_j55 m_X8_carry_j62 m_X0_add
        rw [cs1, zBx_e, zLt_e, e1, zLt_e, zU_eq, if_pos le00, zLt_e, zU_nj (by decide), zU_nj (by decide), e2]
        obtain ⟨s', r1, r2, r3, r4, r5⟩ := p_add (n := n) (a := nI a) (l := nI w) c n x (by omega) (by omega)
        obtain ⟨m', g1, g2, g3, g4, g5⟩ := q_add (n := n) (c := c) hn (a := nI a) (l := nI w) (by omega) c n (zU (zU m 0 23 0) 0 23 0) (Nat.le_refl _) (by omega) (by rw [zU_nj (by decide), zU_nj (by decide)]; exact e2)
        have M : ∀ k, k ≠ 0 → zU (zU m 0 23 0) 0 23 0 k = m k := fun k hk => by rw [zU_ne hk, zU_ne hk]
        rw [M 7 (by decide), M 8 (by decide), ← t14, ← t15] at g1 g2 g3
        rw [r1, zBd_e, p_total (c := c + 1) hn (by omega) (by rw [r4, upd_s, e1, nI_s]), zBd_e, g1, r2]
        refine Or.inl ⟨_, _, _, rfl, rfl, ?_, zInv_4 h ⟨⟨c + 1, by omega, by rw [r4, upd_s, e1, nI_s], by rw [g4, upd_s]⟩, ⟨u, u1, by rw [r4, upd_n (by decide)]; exact u2, by rw [g4, upd_n (by decide), zU_nj (by decide), zU_nj (by decide)]; exact u3⟩, by rw [r2, g2], by rw [r3, g3], ?_⟩ r5 (fun k k1 k2 k3 => by rw [g5 k k1 k2 k3, M k k1]) (fun j j1 j2 j3 => by rw [g4, upd_n j2, zU_nj j3, zU_nj j3])⟩
        · rw [g4, upd_n (by decide), zU_eq]
        · rw [r2]; exact zIn_bn ⟨a, ha, rfl⟩ c _ _ (by omega) tb
    · rw [if_neg q, if_pos rfl]
      by_cases q1 : v2 < nI u
      · rw [if_pos q1]; exact bad
      · have h1 : nI u ≤ v2 := Int32.not_lt.mp q1
        have h0 : ¬ v2 < 0 := Int32.not_lt.mpr (Int32.le_trans (nI_pos' (by omega)) h1)
        obtain ⟨w, hw, rfl⟩ := nI_of h0
        have w1 : u ≤ w := (le_n (by omega) hw).mp h1
        have w2 : ¬ w ≤ u + 20 := fun e => q ⟨h1, (le_n hw (by omega)).mpr e⟩
        rw [if_neg q1, n_sub w1, if_pos (show (20 : Int32) < nI (w - u) from (lt_n (a := 20) (by decide) (by omega)).mpr (by omega))]
        exact bad
  · rw [d1, zBd_e, d2, zBd_e, if_pos rfl, if_pos rfl]
    exact bad
def zCy (K e : Nat → Int32) (c : Nat) (A : Nat → Int32) : Nat → Int32 × (Nat → Int32)
  | 0 => (0, A)
  | k + 1 => if K k = 7 then ((zCy K e c A k).1 + (e k - (zTk (e k) (zCy K e c A k).2 c).1), (zTk (e k) (zCy K e c A k).2 c).2) else zCy K e c A k
theorem zCy_s {K e : Nat → Int32} {c : Nat} {A : Nat → Int32} {k : Nat} : zCy K e c A (k + 1) = if K k = 7 then ((zCy K e c A k).1 + (e k - (zTk (e k) (zCy K e c A k).2 c).1), (zTk (e k) (zCy K e c A k).2 c).2) else zCy K e c A k := rfl
theorem zCy_bn {K e : Nat → Int32} {c : Nat} {A : Nat → Int32} (hc : c ≤ 8) (he : ∀ k, k < 16 → zBn (e k)) (hA : ∀ i, i < 8 → ∃ a, a ≤ 1000000 ∧ A i = nI a) : ∀ k, k ≤ 16 → ∀ i, i < 8 → ∃ a, a ≤ 1000000 ∧ (zCy K e c A k).2 i = nI a := by
  intro k
  induction k with
  | zero => intro _; exact hA
  | succ k ih =>
    intro hk
    unfold zCy
    by_cases q : K k = 7
    · rw [if_pos q]; exact (zTk_bn (he k (by omega)) (ih (by omega)) c hc).2
    · rw [if_neg q]; exact ih (by omega)
theorem p_cy {n c : Nat} (hn : 100 ≤ n) {s : zS} (hc : c ≤ 8) (h : s 13 2 = nI c) {K e : Nat → Int32} (hK : ∀ k, k < 16 → s 2 k = K k) (he : ∀ k, k < 16 → s 22 k = e k) : ∃ f1, m_X7_closeYear_j12 n n 0 0 s = m_X7_closeYear_j12 n (f1 + 1) (zCy K e c (s 14) 16).1 (nI 16) (zSt s 14 (zCy K e c (s 14) 16).2) := by
  obtain ⟨q, f1, hf1, hI, e1⟩ := for_up (fun f k (q : Int32 × (Nat → Int32)) => m_X7_closeYear_j12 n f q.1 (nI k) (zSt s 14 q.2)) (fun k q => q = zCy K e c (s 14) k) 16 (by
    rintro f k q hk rfl
    refine ⟨_, rfl, ?_⟩
    show m_X7_closeYear_j12 n (f + 1) (zCy K e c (s 14) k).1 (nI k) (zSt s 14 (zCy K e c (s 14) k).2) = m_X7_closeYear_j12 n f (zCy K e c (s 14) (k + 1)).1 (nI (k + 1)) (zSt s 14 (zCy K e c (s 14) (k + 1)).2)
    rw [m_X7_closeYear_j12, if_neg (n16 hk), p_kind, zBd_e, a16 hk, zSt_n (c := 2) (by decide), hK k hk]
    rw [zCy_s]
    by_cases q : K k = 7
    · rw [if_pos q, if_pos q, p_of, zBd_e, a16 hk, zSt_n (c := 22) (by decide), he k hk, p_take hn (e k) hc (by rw [zSt_n (by decide)]; exact h), zBd_e, zLt_e, zLt_e, nI_s, zSt_z, zSt_s]
    · rw [if_neg q, if_neg q, zLt_e, nI_s]) 16 n 0 (0, s 14) (by omega) (by omega) rfl
  refine ⟨f1 - 1, ?_⟩
  have e1' : m_X7_closeYear_j12 n n 0 (nI 0) (zSt s 14 (s 14)) = m_X7_closeYear_j12 n f1 q.1 (nI 16) (zSt s 14 q.2) := e1
  rw [zSt_i] at e1'
  rw [show f1 - 1 + 1 = f1 by omega, ← hI]
  exact e1'
theorem q_cy {n c : Nat} (hn : 100 ≤ n) {s : zS} (hc : c ≤ 8) (h : s 0 8 = nI c) {K e : Nat → Int32} (hK : ∀ k, k < 16 → s 1 k = K k) (he : ∀ k, k < 16 → s 11 k = e k) : ∃ f1, m_X8_closeYear_j15 n n 0 0 s = m_X8_closeYear_j15 n (f1 + 1) (zCy K e c (s 7) 16).1 (nI 16) (zSt s 7 (zCy K e c (s 7) 16).2) := by
  obtain ⟨q, f1, hf1, hI, e1⟩ := for_up (fun f k (q : Int32 × (Nat → Int32)) => m_X8_closeYear_j15 n f q.1 (nI k) (zSt s 7 q.2)) (fun k q => q = zCy K e c (s 7) k) 16 (by
    rintro f k q hk rfl
    refine ⟨_, rfl, ?_⟩
    show m_X8_closeYear_j15 n (f + 1) (zCy K e c (s 7) k).1 (nI k) (zSt s 7 (zCy K e c (s 7) k).2) = m_X8_closeYear_j15 n f (zCy K e c (s 7) (k + 1)).1 (nI (k + 1)) (zSt s 7 (zCy K e c (s 7) (k + 1)).2)
    rw [m_X8_closeYear_j15, if_neg (n16 hk), zRd_n hk (by decide), zSt_n (c := 1) (by decide), hK k hk]
    rw [zCy_s]
    by_cases q : K k = 7
    · rw [if_pos q, if_pos q, zRd_n (by omega) (by decide), zSt_n (c := 11) (by decide), he k hk, q_spends hn (e k) hc (by rw [zSt_n (by decide)]; exact h), zBd_e, zLt_e, zLt_e, nI_s, zSt_z, zSt_s]
    · rw [if_neg q, if_neg q, zLt_e, zLt_e, nI_s, Int32.add_zero]) 16 n 0 (0, s 7) (by omega) (by omega) rfl
  refine ⟨f1 - 1, ?_⟩
  have e1' : m_X8_closeYear_j15 n n 0 (nI 0) (zSt s 7 (s 7)) = m_X8_closeYear_j15 n f1 q.1 (nI 16) (zSt s 7 q.2) := e1
  rw [zSt_i] at e1'
  rw [show f1 - 1 + 1 = f1 by omega, ← hI]
  exact e1'
theorem C_closeYear {n y : Nat} (hn : 100 ≤ n) (x m : zS) (h : zInv y x m) : zDir (y + 1) (m_X7_closeYear n x) (m_X8_closeYear n m) := by
  obtain ⟨e, e', w, w1, w2, w3, w4, w5⟩ := inv_work hn (zInv_t h 0)
  obtain ⟨⟨c, hc, e1, e2⟩, ⟨u, u1, u2, u3⟩, t14, t15, tb⟩ := id w3.2.2.2.1
  unfold m_X7_closeYear m_X8_closeYear
  rw [w1, zBd_e, zLt_e, w2, zBd_e]
  obtain ⟨f1, p1⟩ := p_cy (n := n) (s := zXe x e) hn hc e1 (K := zXe x e 2) (e := e) (fun _ _ => rfl) (fun k _ => by rw [zXe_e])
  obtain ⟨f2, q1⟩ := q_cy (n := n) (s := zS2 (zU m 0 23 0) e' w) hn hc e2 (K := zXe x e 2) (e := e) (fun k _ => by rw [w3.1.1]) (fun k hk => by rw [zS2_v]; exact w4 k hk)
  rw [← t14] at q1
  have hb := zCy_bn (K := zXe x e 2) (c := c) hc w5 tb 16 (Nat.le_refl _)
  generalize zCy (zXe x e 2) e c (zXe x e 14) 16 = R at p1 q1 hb
  obtain ⟨s', r1, r2, r3, r4, r5⟩ := p_endYear (n := n) (c := c) (s := zSt (zXe x e) 14 R.2) hn hc (by rw [zSt_n (by decide)]; exact e1)
  obtain ⟨m', g1, g2, g3, g4, g5⟩ := q_endYear (n := n) (c := c) (s := zSt (zS2 (zU m 0 23 0) e' w) 7 R.2) hn R.1 hc (by rw [zSt_n (by decide)]; exact e2)
  rw [zSt_s, zSt_n (c := 13) (by decide), zSt_n (c := 15) (by decide), u2] at r2 r3 r4
  rw [zSt_s, zSt_n (c := 0) (by decide), zSt_n (c := 8) (by decide), u3, ← t15] at g2 g3 g4
  obtain ⟨z1, z2⟩ := zEy_bn (y := nI u) (L := zXe x e 15) hb c hc
  refine ⟨R.1, s', m', ?_, ?_, ?_⟩
  · rw [p1, m_X7_closeYear_j12, if_pos n16e, r1, zBd_e]; rfl
  · rw [q1, m_X8_closeYear_j15, if_pos n16e, g1]
  · refine zInv_4 w3 ⟨⟨(zEy (nI u) R.2 (zXe x e 15) c).1, by omega, by rw [r4, upd_n (by decide), upd_s], by rw [g4, upd_n (by decide), upd_s]⟩, ⟨u + 1, by omega, by rw [r4, upd_s, nI_s], by rw [g4, upd_s, nI_s]⟩, by rw [r2, g2], by rw [r3, g3], by rw [r2]; exact z2⟩ (fun k k1 k2 k3 => by rw [r5 k k1 k2 k3, zSt_n k2]) (fun k k1 k2 k3 => by rw [g5 k k1 k2 k3, zSt_n k2]) (fun j j1 j2 _ => by rw [g4, upd_n j1, upd_n j2])
end PCd
end
section
section PCe
/-! calls on credits -/
theorem zInv_5 {y : Nat} {x m x' m' : zS} (h : zInv y x m) (i5' : zI5 x' m') (hx : ∀ c, c ≠ 16 → c ≠ 17 → c ≠ 18 → c ≠ 19 → c ≠ 20 → x' c = x c) (hm : ∀ c, c ≠ 0 → c ≠ 9 → c ≠ 10 → c ≠ 17 → c ≠ 18 → m' c = m c) (h0 : ∀ j, j ≠ 11 → j ≠ 22 → j ≠ 23 → m' 0 j = m 0 j) : zInv y x' m' := by
  obtain ⟨i1, i2, i3, i4, _, i6, i7⟩ := h
  have X : ∀ c, c < 16 ∨ 20 < c → x' c = x c := fun c hc => hx c (by omega) (by omega) (by omega) (by omega) (by omega)
  have M : ∀ c, (0 < c ∧ c < 9) ∨ (10 < c ∧ c < 17) → m' c = m c := fun c hc => hm c (by omega) (by omega) (by omega) (by omega) (by omega)
  exact ⟨zI1_c i1 (X 2 (by decide)) (X 3 (by decide)) (X 4 (by decide)) (X 5 (by decide)) (M 1 (by decide)) (M 2 (by decide)) (M 3 (by decide)) (M 4 (by decide)),
    zI2_c i2 (X 2 (by decide)) (X 3 (by decide)) (X 4 (by decide)) (X 5 (by decide)) (X 7 (by decide)) (X 8 (by decide)) (X 9 (by decide)),
    zI3_c i3 (by rw [X 10 (by decide)]) (X 11 (by decide)) (X 12 (by decide)) (h0 4 (by decide) (by decide) (by decide)) (M 5 (by decide)) (M 6 (by decide)),
    zI4_c i4 (X 13 (by decide)) (X 14 (by decide)) (X 15 (by decide)) (h0 7 (by decide) (by decide) (by decide)) (h0 8 (by decide) (by decide) (by decide)) (M 7 (by decide)) (M 8 (by decide)), i5',
    zI6_c i6 (X 22 (by decide)) (X 24 (by decide)), zI7_c i7 (M 11 (by decide)) (M 12 (by decide))⟩
theorem C_addCredit {n y : Nat} {v1 v2 : Int32} (x m : zS) (h : zInv y x m) : zCall y [(2, 1), (3, 2)] (m_X7_addCredit n v1 v2 x) (m_X8_addCredit n v1 v2 m) := by
  obtain ⟨⟨c, hc, e1, e2⟩, j17, j18, j20, jb⟩ := id h.2.2.2.2.1
  have bad : zCall y [(2, 1), (3, 2)] (m_X7_addCredit_j26 n v1 v2 0 x) (m_X8_addCredit_j39 n v1 v2 1 m) := by
    unfold m_X7_addCredit_j26 m_X8_addCredit_j39
    rw [ca0, zBx_t, zLt_e, zU_eq, if_neg (by decide)]
    exact Or.inr ⟨2, 1, 0, _, zU m 0 23 1, fun _ _ => rfl, by decide, rfl, rfl, zU_eq, zInv_t h _⟩
  unfold m_X7_addCredit m_X8_addCredit
  rcases in_cases 1 1000000 1 1000000 rfl rfl (by omega) (by omega) v1 with ⟨a, _, ha, rfl, d1, d2⟩ | ⟨d1, d2⟩
  · rw [d1, zBd_e, d2, zBd_e, if_neg ne10, if_neg ne10]
    rcases in_cases 0 1000 0 1000 rfl rfl (by omega) (by omega) v2 with ⟨r, _, hr, rfl, g1, g2⟩ | ⟨g1, g2⟩
    · rw [g1, zBd_e, g2, zBd_e, if_neg ne10, if_neg ne10, e2]
      unfold m_X7_addCredit_j26 m_X2_size
      rw [ca1, zBx_e, zBd_r, e1]
      by_cases q : c = 5
      · rw [q, if_pos n5e, if_pos (show nI 5 = (5 : Int32) from rfl)]
        unfold m_X7_addCredit_j45 m_X8_addCredit_j39
        rw [cs0, zBx_t, zLt_e, zU_eq, if_neg (by decide)]
        exact Or.inr ⟨3, 2, 0, _, zU m 0 23 2, fun _ _ => rfl, by decide, rfl, rfl, zU_eq, zInv_t h _⟩
      · rw [if_neg (n5 (show c < 5 by omega)), if_neg (show ¬ nI c = (5 : Int32) from fun e => q ((eq_n (b := 5) (by omega) (by decide)).mp e))]
        unfold m_X7_addCredit_j45 m_X8_addCredit_j39 m_X2_add m_X2_size
        rw [cs1, zBx_e, e1, p_put (by omega) (by decide), zBd_e, zU_ne (a := 16) (k := 17) (by decide), e1, p_put (by omega) (by decide), zBd_e, zLt_e, zU_ne (a := 16) (k := 18) (by decide), zU_ne (a := 16) (k := 17) (by decide), e1, nI_s, zBd_r, zBd_r, zU_eq]
        have e04 : (zU (zU (zU m 0 23 0) 9 c (nI a)) 10 c (nI r)) 0 11 = nI c := by rw [zU_ne (by decide), zU_ne (by decide), zU_nj (by decide)]; exact e2
        rw [zLt_e, zU_eq, if_pos le00, zU_nj (by decide), e2, zWr_n (by omega) (by decide), zU_ne (a := 0) (k := 9) (by decide), zU_nj (by decide), e2, zWr_n (by omega) (by decide), zLt_e, e04, nI_s, zU_eq]
        refine Or.inl ⟨_, _, _, rfl, rfl, ?_, zInv_5 h ⟨⟨c + 1, by omega, zU_eq, zU_eq⟩, ?_, ?_, ?_, ?_⟩ (fun k k1 k2 k3 k4 k5 => by rw [zU_ne k1, zU_ne k3, zU_ne k2]) (fun k k1 k2 k3 k4 k5 => by rw [zU_ne k1, zU_ne k3, zU_ne k2, zU_ne k1]) (fun j j1 j2 j3 => by rw [zU_nj j1, zU_ne (by decide), zU_ne (by decide), zU_nj j3])⟩
        · rw [zU_nj (by decide), zU_ne (by decide), zU_ne (by decide), zU_eq]
        · rw [zU_ne (by decide), zU_ne (by decide), zU_k, zU_ne (by decide), zU_ne (by decide), zU_k, zU_ne (by decide), j17]
        · rw [zU_ne (by decide), zU_k, zU_ne (by decide), zU_ne (by decide), zU_k, zU_ne (by decide), zU_ne (by decide), j18]
        · rw [zU_ne (by decide), zU_ne (by decide), zU_ne (by decide), zU_ne (by decide), zU_ne (by decide), zU_ne (by decide), zU_ne (by decide), j20]
        · rw [zU_ne (by decide), zU_ne (by decide), zU_k]
          intro i hi
          by_cases w : i = c
          · rw [w, upd_s]; exact ⟨a, ha, rfl⟩
          · rw [upd_n w]; exact jb i hi
    · rw [g1, zBd_e, g2, zBd_e, if_pos rfl, if_pos rfl]
      exact bad
  · rw [d1, zBd_e, d2, zBd_e, if_pos rfl, if_pos rfl]
    exact bad
theorem C_dropCredit {n y : Nat} (x m : zS) (h : zInv y x m) : zCall y [(3, 1)] (m_X7_dropCredit n x) (m_X8_dropCredit n m) := by
  obtain ⟨⟨c, hc, e1, e2⟩, j17, j18, j20, jb⟩ := id h.2.2.2.2.1
  unfold m_X7_dropCredit m_X8_dropCredit m_X2_size
  rw [zBd_r, e1, e2]
  by_cases q : c = 0
  · rw [q, if_pos (show nI 0 ≤ (0 : Int32) by decide), if_pos (show nI 0 = (0 : Int32) by decide), cs0, zBx_t]
    refine Or.inr ⟨3, 1, 0, _, zU m 0 23 1, fun _ _ => rfl, by decide, rfl, ?_, zU_eq, zInv_t h _⟩
    unfold m_X8_dropCredit_j13
    rw [zLt_e, zU_eq, if_neg (by decide)]; rfl
  · obtain ⟨d, rfl⟩ : ∃ d, c = d + 1 := ⟨c - 1, by omega⟩
    rw [if_neg (nI_nle (by omega) (by omega)), if_neg (nI_ne0 (by omega) (by omega)), cs1, zBx_e]
    unfold m_X2_dropLast m_X8_dropCredit_j13
    rw [zLt_e, e1, nI_pred, zBd_r, zBd_r, zU_eq, zLt_e, zU_eq, if_pos le00, zU_nj (by decide), e2, nI_pred, zLt_e, zU_eq]
    refine Or.inl ⟨_, _, _, rfl, rfl, ?_, zInv_5 h ⟨⟨d, by omega, zU_eq, zU_eq⟩, ?_, ?_, ?_, ?_⟩ (fun k k1 k2 k3 k4 k5 => zU_ne k1) (fun k k1 k2 k3 k4 k5 => by rw [zU_ne k1, zU_ne k1]) (fun j j1 j2 j3 => by rw [zU_nj j1, zU_nj j3])⟩
    · rw [zU_nj (by decide), zU_eq]
    · rw [zU_ne (by decide), zU_ne (by decide), zU_ne (by decide), j17]
    · rw [zU_ne (by decide), zU_ne (by decide), zU_ne (by decide), j18]
    · rw [zU_ne (by decide), zU_ne (by decide), zU_ne (by decide), j20]
    · rw [zU_ne (by decide)]; exact jb
/-- both find the same best order -/
theorem inv_best {n y : Nat} (hn : 3200 ≤ n) {x m : zS} (t : Int32) (h : zInv y x m) (h23 : m 0 23 = 0) : ∃ R x' m', m_X2_findBest n t x = some (R, x') ∧ m_X8_orders n t m = some (0, m') ∧ m' 0 22 = R ∧ m' 0 23 = 0 ∧ x' 20 = m' 18 ∧ zInv y x' m' ∧ (∀ c, c ≠ 19 → c ≠ 20 → x' c = x c) := by
  obtain ⟨⟨c, hc, e1, e2⟩, j17, j18, j20, jb⟩ := id h.2.2.2.2.1
  obtain ⟨g, p1⟩ := p_findBest (n := n) (s := x) (by omega) hc t e1
  obtain ⟨g', q1⟩ := q_orders (n := n) (s := m) hn hc t e2
  rw [← j17, ← j18, ← j20] at q1
  generalize zFb (x 17) (x 18) (x 20) c t = R at p1 q1
  have x20 : zSt (zSt x 19 g) 20 R.2 20 = zT3 m g' R.2 R.1 18 := by rw [zSt_s, zT3_B]
  refine ⟨R.1, _, _, p1, q1, zT3_b, by rw [zT3_0 (by decide)]; exact h23, x20, zInv_5 h ⟨⟨c, hc, ?_, ?_⟩, ?_, ?_, x20, ?_⟩ (fun k k1 k2 k3 k4 k5 => by rw [zSt_n k5, zSt_n k4]) (fun k k1 k2 k3 k4 k5 => zT3_n k1 k4 k5) (fun j j1 j2 j3 => zT3_0 j2), fun k k1 k2 => by rw [zSt_n k2, zSt_n k1]⟩
  · rw [zSt_n (by decide), zSt_n (by decide)]; exact e1
  · rw [zT3_0 (by decide)]; exact e2
  · rw [zSt_n (by decide), zSt_n (by decide), zT3_n (by decide) (by decide) (by decide)]; exact j17
  · rw [zSt_n (by decide), zSt_n (by decide), zT3_n (by decide) (by decide) (by decide)]; exact j18
  · rw [zSt_n (by decide), zSt_n (by decide)]; exact jb
theorem C_bestSum {n y : Nat} (hn : 3200 ≤ n) {v1 : Int32} (x m : zS) (h : zInv y x m) : zCall y [(1, 1)] (m_X7_bestSum n v1 x) (m_X8_bestSum n v1 m) := by
  unfold m_X7_bestSum m_X8_bestSum
  rcases line_cases n v1 with ⟨k, hk, rfl, c1, c2⟩ | ⟨c1, c2⟩
  · obtain ⟨e, e', w, w1, w2, w3, w4, w5⟩ := inv_work (n := n) (by omega) (zInv_t h 0)
    obtain ⟨R, x', m', b1, b2, b3, b4, _, b6, _⟩ := inv_best hn (e k) w3 zS2_th
    rw [c1, zBx_e, c2, zBd_e, if_neg ne10, w1, zBd_e, p_of, zBd_e, a16 hk, zXe_e, b1, zBd_e]
    unfold m_X8_bestSum_j13
    rw [zLt_e, zU_eq, if_pos le00, w2, zBd_e, zRd_n (by omega) (by decide), zS2_v, w4 k hk, b2, zBd_e, b3]
    exact Or.inl ⟨_, _, _, rfl, rfl, b4, b6⟩
  · rw [c1, zBx_t, c2, zBd_e, if_pos rfl]
    refine Or.inr ⟨1, 1, 0, _, zU m 0 23 1, fun _ _ => rfl, by decide, rfl, ?_, zU_eq, zInv_t h _⟩
    unfold m_X8_bestSum_j13
    rw [zLt_e, zU_eq, if_neg (by decide)]; rfl
theorem C_creditAt {n y : Nat} (hn : 3200 ≤ n) {v1 v2 : Int32} (x m : zS) (h : zInv y x m) : zCall y [(1, 1)] (m_X7_creditAt n v1 v2 x) (m_X8_creditAt n v1 v2 m) := by
  obtain ⟨⟨c, hc, e1, e2⟩, j17, j18, j20, jb⟩ := id h.2.2.2.2.1
  have bad : zCall y [(1, 1)] (some (.inr 1, x)) (m_X8_creditAt_j27 n v1 v2 1 m) := by
    unfold m_X8_creditAt_j27
    rw [zLt_e, zU_eq, if_neg (by decide)]
    exact Or.inr ⟨1, 1, 0, _, zU m 0 23 1, fun _ _ => rfl, by decide, rfl, rfl, zU_eq, zInv_t h _⟩
  unfold m_X7_creditAt m_X8_creditAt m_X2_size
  rcases line_cases n v1 with ⟨k, hk, rfl, c1, c2⟩ | ⟨c1, c2⟩
  · rw [c1, zBx_e, c2, zBd_e, if_neg ne10, e2]
    rcases q_place (n := n) (show c ≤ 8 by omega) v2 m with ⟨j, hj, rfl, k1⟩ | ⟨k0, k1⟩
    · obtain ⟨e, e', w, w1, w2, w3, w4, w5⟩ := inv_work (n := n) (by omega) (zInv_t h 0)
      obtain ⟨R, x', m', b1, b2, b3, b4, b5, b6, _⟩ := inv_best hn (e k) w3 zS2_th
      rw [if_neg (nI_pos (by omega)), zBd_r, e1, if_neg (nI_ge hj (by omega)), k1, zBd_e, if_neg ne10]
      unfold m_X7_creditAt_j24 m_X8_creditAt_j27
      rw [cp1, zBx_e, w1, zBd_e, p_of, zBd_e, a16 hk, zXe_e, b1, zBd_e, p_bestAt, zBd_e, a5 (by omega), b5]
      rw [zLt_e, zU_eq, if_pos le00, w2, zBd_e, zRd_n (by omega) (by decide), zS2_v, w4 k hk, b2, zBd_e, zRd_n (by omega) (by decide)]
      exact Or.inl ⟨_, _, _, rfl, rfl, b4, b6⟩
    · rw [k1, zBd_e, if_pos rfl]
      unfold m_X7_creditAt_j24
      by_cases q : v2 < 0
      · rw [if_pos q, cp0, zBx_t]
        exact bad
      · rw [if_neg q, zBd_r, e1, if_pos (k0.resolve_left q), cp0, zBx_t]
        exact bad
  · rw [c1, zBx_t, c2, zBd_e, if_pos rfl]
    exact bad
/-- sums as numbers -/
def cS (f : Nat → Int32) : Nat → Nat
  | 0 => 0
  | k + 1 => cS f k + zN (f k)
theorem cS_n {f : Nat → Int32} : ∀ k, (∀ i, i < k → ∃ a, a ≤ 1000000 ∧ f i = nI a) → zSm f k = nI (cS f k) ∧ cS f k ≤ k * 1000000 := by
  intro k
  induction k with
  | zero => intro _; exact ⟨rfl, Nat.zero_le _⟩
  | succ k ih =>
    intro h
    obtain ⟨e1, e2⟩ := ih (fun i hi => h i (by omega))
    obtain ⟨a, ha, ea⟩ := h k (by omega)
    unfold zSm cS
    rw [e1, ea, zN_n (by omega), nI_add]
    exact ⟨rfl, by rw [Nat.succ_mul]; omega⟩
theorem p_ctotal {n c : Nat} (hn : 100 ≤ n) {s : zS} (hc : c ≤ 5) (h : s 16 4 = nI c) : m_X2_total n s = some (zSm (s 17) c, s) := by
  obtain ⟨v, f1, hf1, hI, e1⟩ := for_up (fun f k (v : Int32) => m_X2_total_j4 n f v (nI k) s) (fun k v => v = zSm (s 17) k) c (by
    rintro f k v hk rfl
    refine ⟨_, rfl, ?_⟩
    show m_X2_total_j4 n (f + 1) _ (nI k) s = m_X2_total_j4 n f _ (nI (k + 1)) s
    rw [m_X2_total_j4, h, if_neg (nI_ge hk (by omega)), p_at (by decide), zBd_e, a5 (by omega), zLt_e, zLt_e, nI_s, zSm]) c n 0 0 (by omega) (by omega) rfl
  obtain ⟨f1, rfl⟩ : ∃ g, f1 = g + 1 := ⟨f1 - 1, by omega⟩
  unfold m_X2_total
  refine (show _ = _ from e1).trans ?_
  show m_X2_total_j4 n (f1 + 1) v (nI c) s = _
  rw [m_X2_total_j4, h, if_pos (nI_le (Nat.le_refl _) (by omega)), hI]; rfl
theorem q_left {n c t : Nat} (hn : 100 ≤ n) {s : zS} (hc : c ≤ 5) (h : s 0 11 = nI c) (ht : t ≤ 1000000000) (hb : ∀ i, i < 5 → ∃ a, a ≤ 1000000 ∧ s 9 i = nI a) : m_X8_afterCredits_j40 n n (nI t) 0 s = some (nI (t - cS (s 9) c), s) := by
  obtain ⟨v, f1, hf1, hI, e1⟩ := for_up (fun f k (v : Int32) => m_X8_afterCredits_j40 n f v (nI k) s) (fun k v => v = nI (t - cS (s 9) k)) c (by
    rintro f k v hk rfl
    refine ⟨_, rfl, ?_⟩
    obtain ⟨a, ha, ea⟩ := hb k (by omega)
    show m_X8_afterCredits_j40 n (f + 1) (nI (t - cS (s 9) k)) (nI k) s = m_X8_afterCredits_j40 n f (nI (t - (cS (s 9) k + zN (s 9 k)))) (nI (k + 1)) s
    rw [m_X8_afterCredits_j40, h, if_neg (nI_ge hk (by omega)), zRd_n (by omega) (by decide), zRd_n (by omega) (by decide), ea, zN_n (by omega)]
    by_cases q : t - cS (s 9) k ≤ a
    · rw [if_pos (nI_le q (by omega)), zLt_e, zLt_e, nI_s, n_sub (Nat.le_refl _)]
      congr 2
      omega
    · rw [if_neg (nI_ge (by omega) (by omega)), zLt_e, zLt_e, nI_s, n_sub (by omega)]
      congr 2
      omega) c n 0 (nI t) (by omega) (by omega) rfl
  obtain ⟨f1, rfl⟩ : ∃ g, f1 = g + 1 := ⟨f1 - 1, by omega⟩
  refine (show _ = _ from e1).trans ?_
  show m_X8_afterCredits_j40 n (f1 + 1) v (nI c) s = _
  rw [m_X8_afterCredits_j40, h, if_pos (nI_le (Nat.le_refl _) (by omega)), hI]; rfl
theorem C_afterCredits {n y : Nat} (hn : 100 ≤ n) {v1 : Int32} (x m : zS) (h : zInv y x m) : zCall y [(1, 1)] (m_X7_afterCredits n v1 x) (m_X8_afterCredits n v1 m) := by
  unfold m_X7_afterCredits m_X8_afterCredits
  rcases line_cases n v1 with ⟨k, hk, rfl, c1, c2⟩ | ⟨c1, c2⟩
  · obtain ⟨e, e', w, w1, w2, w3, w4, w5⟩ := inv_work hn (zInv_t h 0)
    obtain ⟨⟨c, hc, e1, e2⟩, j17, j18, j20, jb⟩ := id w3.2.2.2.2.1
    obtain ⟨a, ha, ea⟩ := w5 k hk
    obtain ⟨s1, s2⟩ := cS_n (f := zXe x e 17) c (fun i hi => jb i (by omega))
    have hm5 : c * 1000000 ≤ 5 * 1000000 := Nat.mul_le_mul_right _ hc
    rw [c1, zBx_e, c2, zBd_e, if_neg ne10, w1, zBd_e, p_of, zBd_e, a16 hk, zXe_e, p_ctotal hn hc e1, zBd_e, s1, ea]
    unfold m_X8_afterCredits_j13
    rw [zLt_e, zU_eq, if_pos le00, w2, zBd_e, zRd_n (by omega) (by decide)]
    have e11 : zS2 (zU m 0 23 0) e' w 11 k = nI a := by rw [zS2_v, w4 k hk, ea]
    rw [e11, q_left hn hc e2 ha (by rw [← j17]; exact jb), ← j17]
    refine Or.inl ⟨_, _, _, rfl, ?_, zS2_th, w3⟩
    generalize cS (zXe x e 17) c = S at s2
    congr 2
    by_cases q : S < a
    · rw [if_pos ((lt_n (by omega) (by omega)).mpr q), n_sub (by omega)]
    · rw [if_neg (fun z => q ((lt_n (by omega) (by omega)).mp z)), n_sub (Nat.le_refl _)]
      congr 1
      omega
  · rw [c1, zBx_t, c2, zBd_e, if_pos rfl]
    refine Or.inr ⟨1, 1, 0, _, zU m 0 23 1, fun _ _ => rfl, by decide, rfl, ?_, zU_eq, zInv_t h _⟩
    unfold m_X8_afterCredits_j13
    rw [zLt_e, zU_eq, if_neg (by decide)]; rfl
end PCe
end
section
section PDe
/-! define -/
theorem zInv_2 {y : Nat} {x m x' m' : zS} (h : zInv y x m) (i1' : zI1 x' m') (i2' : zI2 x') (hx : ∀ c, 9 < c → x' c = x c) (hm : ∀ c, 4 < c → c ≠ 13 → c ≠ 14 → m' c = m c) (h0 : ∀ j, j ≠ 23 → m' 0 j = m 0 j) : zInv y x' m' := by
  obtain ⟨_, _, i3, i4, i5, i6, i7⟩ := h
  have X : ∀ c, 9 < c → x' c = x c := hx
  have M : ∀ c, (4 < c ∧ c < 13) ∨ 14 < c → m' c = m c := fun c hc => hm c (by omega) (by omega) (by omega)
  exact ⟨i1', i2', zI3_c i3 (by rw [X 10 (by decide)]) (X 11 (by decide)) (X 12 (by decide)) (h0 4 (by decide)) (M 5 (by decide)) (M 6 (by decide)),
    zI4_c i4 (X 13 (by decide)) (X 14 (by decide)) (X 15 (by decide)) (h0 7 (by decide)) (h0 8 (by decide)) (M 7 (by decide)) (M 8 (by decide)),
    zI5_c i5 (X 16 (by decide)) (X 17 (by decide)) (X 18 (by decide)) (X 20 (by decide)) (h0 11 (by decide)) (M 9 (by decide)) (M 10 (by decide)) (M 18 (by decide)),
    zI6_c i6 (X 22 (by decide)) (X 24 (by decide)), zI7_c i7 (M 11 (by decide)) (M 12 (by decide))⟩
theorem zI2_of {b s : zS} (hw : zWf (b 2) (b 3) (b 4)) (hp : zPlan b s) (e2 : s 2 = b 2) (e3 : s 3 = b 3) (e4 : s 4 = b 4) (h5 : ∀ k, k < 16 → ∃ a, a ≤ 1000000 ∧ s 5 k = nI a) : zI2 s := by
  obtain ⟨p1, p2, p3⟩ := zPlan_Pn hw hp
  obtain ⟨q1, q2, _⟩ := hp
  unfold zI2
  rw [e2, e3, e4]
  exact ⟨p1, p2, q1, q2, p3, h5⟩
theorem wf_upd {K F G : Nat → Int32} (hw : zWf K F G) {k : Nat} {v2 v3 v4 : Int32} (h1 : ∃ a, a < 9 ∧ v2 = nI a) (h2 : v2 ≠ 0 → ∃ a, a < 16 ∧ v3 = nI a) (h3 : zTwo v2 = true → ∃ a, a < 16 ∧ v4 = nI a) (h4 : v2 = 3 → ∃ a, a ≤ 1000 ∧ v4 = nI a) : zWf (upd K k v2) (upd F k v3) (upd G k v4) := by
  intro i hi
  by_cases q : i = k
  · rw [q, upd_s, upd_s, upd_s]
    exact ⟨h1, h2, h3, h4⟩
  · rw [upd_n q, upd_n q, upd_n q]
    exact hw i hi
theorem p_setl {n k : Nat} (hk : k < 16) (v2 v3 v4 : Int32) (s : zS) : m_X5_set n (nI k) v2 v3 v4 s = some (0, zU (zU (zU s 2 k v2) 3 k v3) 4 k v4) := by
  unfold m_X5_set
  rw [p_put hk (by decide), zBd_e, p_put hk (by decide), zBd_e, p_put hk (by decide), zBd_e]; rfl
/-- a definition that may be tried -/
theorem define_core {n y k : Nat} (hn : 100 ≤ n) {v2 v3 v4 : Int32} (x m : zS) (h : zInv y x m) (hk : k < 16) (h1 : ∃ a, a < 9 ∧ v2 = nI a) (h2 : v2 ≠ 0 → ∃ a, a < 16 ∧ v3 = nI a) (h3 : zTwo v2 = true → ∃ a, a < 16 ∧ v4 = nI a) (h4 : v2 = 3 → ∃ a, a ≤ 1000 ∧ v4 = nI a) : zCall y [(1, 1), (2, 2), (3, 3)] (m_X7_define_j73 n (nI k) v2 v3 v4 1 x) (m_X8_define_j122 n (nI k) v2 v3 v4 0 m) := by
  obtain ⟨⟨j2, j3, j4, j5⟩, ⟨k1, k2, k3, k4, k5, k6⟩, _, _, _, _, _⟩ := id h
  have hw := k1.1
  have hw' := wf_upd hw (k := k) h1 h2 h3 h4
  have b2 : zU (zU (zU x 2 k v2) 3 k v3) 4 k v4 2 = upd (x 2) k v2 := by rw [zU_ne (by decide), zU_ne (by decide), zU_k]
  have b3 : zU (zU (zU x 2 k v2) 3 k v3) 4 k v4 3 = upd (x 3) k v3 := by rw [zU_ne (by decide), zU_k, zU_ne (by decide)]
  have b4 : zU (zU (zU x 2 k v2) 3 k v3) 4 k v4 4 = upd (x 4) k v4 := by rw [zU_k, zU_ne (by decide), zU_ne (by decide)]
  have bn : ∀ c, c ≠ 2 → c ≠ 3 → c ≠ 4 → zU (zU (zU x 2 k v2) 3 k v3) 4 k v4 c = x c := fun c c1 c2 c3 => by rw [zU_ne c3, zU_ne c2, zU_ne c1]
  have a1 : zU (zU (zU (zU m 0 23 0) 1 k v2) 2 k v3) 3 k v4 1 = upd (x 2) k v2 := by rw [zU_ne (by decide), zU_ne (by decide), zU_k, zU_ne (by decide), j2]
  have a2 : zU (zU (zU (zU m 0 23 0) 1 k v2) 2 k v3) 3 k v4 2 = upd (x 3) k v3 := by rw [zU_ne (by decide), zU_k, zU_ne (by decide), zU_ne (by decide), j3]
  have a3 : zU (zU (zU (zU m 0 23 0) 1 k v2) 2 k v3) 3 k v4 3 = upd (x 4) k v4 := by rw [zU_k, zU_ne (by decide), zU_ne (by decide), zU_ne (by decide), j4]
  have an : ∀ c, c ≠ 0 → c ≠ 1 → c ≠ 2 → c ≠ 3 → zU (zU (zU (zU m 0 23 0) 1 k v2) 2 k v3) 3 k v4 c = m c := fun c c0 c1 c2 c3 => by rw [zU_ne c3, zU_ne c2, zU_ne c1, zU_ne c0]
  have a0 : ∀ j, j ≠ 23 → zU (zU (zU (zU m 0 23 0) 1 k v2) 2 k v3) 3 k v4 0 j = m 0 j := fun j hj => by rw [zU_ne (by decide), zU_ne (by decide), zU_ne (by decide), zU_nj hj]
  have a023 : zU (zU (zU (zU m 0 23 0) 1 k v2) 2 k v3) 3 k v4 0 23 = 0 := by rw [zU_ne (by decide), zU_ne (by decide), zU_ne (by decide), zU_eq]
  unfold m_X7_define_j73 m_X8_define_j122
  rw [ca1, zBx_e, p_kind, zBd_e, p_first, zBd_e, p_second, zBd_e, a16 hk, a16 hk, a16 hk, p_setl hk, zBd_e]
  rw [zLt_e, zU_eq, if_pos le00, zRd_n hk (by decide), zRd_n hk (by decide), zRd_n hk (by decide), zWr_n hk (by decide), zWr_n hk (by decide), zWr_n hk (by decide), zU_ne (a := 1) (k := 0) (by decide), zU_ne (a := 2) (k := 0) (by decide), zU_ne (a := 3) (k := 0) (by decide)]
  generalize zU (zU (zU x 2 k v2) 3 k v3) 4 k v4 = b at b2 b3 b4 bn ⊢
  generalize zU (zU (zU (zU m 0 23 0) 1 k v2) 2 k v3) 3 k v4 = A at a1 a2 a3 an a0 a023 ⊢
  obtain ⟨r, A', f1, f2, f3, f4⟩ := q_isAllowed hn (s := A) (by rw [a1, a2, a3]; exact hw')
  rw [a1, a2, a3] at f3 f4
  rw [f1, zBd_e]
  rcases p_make hn (b := b) (by rw [b2, b3, b4]; exact hw') with ⟨s, s1, s2, s3⟩ | ⟨s, s1, s2, s3⟩
  · have hal := (zPlan_Pn (by rw [b2, b3, b4]; exact hw') s3).2.2
    rw [b2, b3, b4] at hal
    rw [s1, zBd_e, if_neg ne10, f3 hal, if_neg ne10]
    have S2 : s 2 = b 2 := s2 2 (by decide) (by decide) (by decide) (by decide)
    have S3 : s 3 = b 3 := s2 3 (by decide) (by decide) (by decide) (by decide)
    have S4 : s 4 = b 4 := s2 4 (by decide) (by decide) (by decide) (by decide)
    have S5 : s 5 = x 5 := by rw [s2 5 (by decide) (by decide) (by decide) (by decide), bn 5 (by decide) (by decide) (by decide)]
    refine Or.inl ⟨_, _, _, rfl, rfl, ?_, zInv_2 h ⟨?_, ?_, ?_, ?_⟩ (zI2_of (by rw [b2, b3, b4]; exact hw') s3 S2 S3 S4 (by rw [S5]; exact k6)) (fun c hc => by rw [s2 c (by omega) (by omega) (by omega) (by omega), bn c (by omega) (by omega) (by omega)]) (fun c c1 c2 c3 => by rw [f2 c c2 c3, an c (by omega) (by omega) (by omega) (by omega)]) (fun j hj => by rw [f2 0 (by decide) (by decide), a0 j hj])⟩
    · rw [f2 0 (by decide) (by decide), a023]
    · rw [S2, b2, f2 1 (by decide) (by decide), a1]
    · rw [S3, b3, f2 2 (by decide) (by decide), a2]
    · rw [S4, b4, f2 3 (by decide) (by decide), a3]
    · rw [S5, f2 4 (by decide) (by decide), an 4 (by decide) (by decide) (by decide) (by decide), j5]
  · rw [b2, b3, b4] at s3
    rw [s1, zBd_e, if_pos rfl, f4 s3, if_pos rfl, p_setl hk, zBd_e, zWr_n hk (by decide), zWr_n hk (by decide), zWr_n hk (by decide), zLt_e]
    have S : ∀ c, c ≠ 6 → c ≠ 7 → c ≠ 8 → c ≠ 9 → s c = b c := s2
    have t2 : zU (zU (zU s 2 k (x 2 k)) 3 k (x 3 k)) 4 k (x 4 k) 2 = x 2 := by rw [zU_ne (by decide), zU_ne (by decide), zU_k, S 2 (by decide) (by decide) (by decide) (by decide), b2, upd_2, upd_self]
    have t3 : zU (zU (zU s 2 k (x 2 k)) 3 k (x 3 k)) 4 k (x 4 k) 3 = x 3 := by rw [zU_ne (by decide), zU_k, zU_ne (by decide), S 3 (by decide) (by decide) (by decide) (by decide), b3, upd_2, upd_self]
    have t4 : zU (zU (zU s 2 k (x 2 k)) 3 k (x 3 k)) 4 k (x 4 k) 4 = x 4 := by rw [zU_k, zU_ne (by decide), zU_ne (by decide), S 4 (by decide) (by decide) (by decide) (by decide), b4, upd_2, upd_self]
    have tn : ∀ c, c ≠ 2 → c ≠ 3 → c ≠ 4 → c ≠ 6 → c ≠ 7 → c ≠ 8 → c ≠ 9 → zU (zU (zU s 2 k (x 2 k)) 3 k (x 3 k)) 4 k (x 4 k) c = x c := fun c c1 c2 c3 c4 c5 c6 c7 => by rw [zU_ne c3, zU_ne c2, zU_ne c1, S c c4 c5 c6 c7, bn c c1 c2 c3]
    generalize zU (zU (zU s 2 k (x 2 k)) 3 k (x 3 k)) 4 k (x 4 k) = T at t2 t3 t4 tn ⊢
    rcases p_make hn (b := T) (by rw [t2, t3, t4]; exact hw) with ⟨u, u1, u2, u3⟩ | ⟨u, u1, u2, u3⟩
    · rw [u1, zBd_e]
      have U2 : u 2 = T 2 := u2 2 (by decide) (by decide) (by decide) (by decide)
      have U3 : u 3 = T 3 := u2 3 (by decide) (by decide) (by decide) (by decide)
      have U4 : u 4 = T 4 := u2 4 (by decide) (by decide) (by decide) (by decide)
      have U5 : u 5 = x 5 := by rw [u2 5 (by decide) (by decide) (by decide) (by decide), tn 5 (by decide) (by decide) (by decide) (by decide) (by decide) (by decide) (by decide)]
      refine Or.inr ⟨3, 3, _, _, _, fun _ _ => rfl, by decide, rfl, rfl, zU_eq, zInv_2 h ⟨?_, ?_, ?_, ?_⟩ (zI2_of (by rw [t2, t3, t4]; exact hw) u3 U2 U3 U4 (by rw [U5]; exact k6)) (fun c hc => by rw [u2 c (by omega) (by omega) (by omega) (by omega), tn c (by omega) (by omega) (by omega) (by omega) (by omega) (by omega) (by omega)]) (fun c c1 c2 c3 => by rw [zU_ne (by omega), zU_ne (by omega), zU_ne (by omega), zU_ne (by omega), f2 c c2 c3, an c (by omega) (by omega) (by omega) (by omega)]) (fun j hj => by rw [zU_nj hj, zU_ne (by decide), zU_ne (by decide), zU_ne (by decide), f2 0 (by decide) (by decide), a0 j hj])⟩
      · rw [U2, t2, zU_ne (by decide), zU_ne (by decide), zU_ne (by decide), zU_k, f2 1 (by decide) (by decide), a1, ← j2, upd_2, upd_self]
      · rw [U3, t3, zU_ne (by decide), zU_ne (by decide), zU_k, zU_ne (by decide), f2 2 (by decide) (by decide), a2, ← j3, upd_2, upd_self]
      · rw [U4, t4, zU_ne (by decide), zU_k, zU_ne (by decide), zU_ne (by decide), f2 3 (by decide) (by decide), a3, ← j4, upd_2, upd_self]
      · rw [U5, zU_ne (by decide), zU_ne (by decide), zU_ne (by decide), zU_ne (by decide), f2 4 (by decide) (by decide), an 4 (by decide) (by decide) (by decide) (by decide), j5]
    · exfalso
      rw [t2, t3, t4] at u3
      obtain ⟨r', B', g1, _, g3, g4⟩ := q_isAllowed hn (s := m) (by rw [← j2, ← j3, ← j4]; exact hw)
      rw [← j2, ← j3, ← j4] at g3 g4
      have := (g3 k5).symm.trans (g4 u3)
      exact absurd this ne10
theorem C_define {n y : Nat} (hn : 100 ≤ n) {v1 v2 v3 v4 : Int32} (x m : zS) (h : zInv y x m) : zCall y [(1, 1), (2, 2), (3, 3)] (m_X7_define n v1 v2 v3 v4 x) (m_X8_define n v1 v2 v3 v4 m) := by
  have thr1 : ∀ a b c d, m_X8_define_j122 n a b c d 1 m = some (0, zU m 0 23 1) := by
    intro a b c d
    unfold m_X8_define_j122
    rw [zLt_e, zU_eq, if_neg (by decide)]; rfl
  have thr2 : ∀ a b c d, m_X8_define_j122 n a b c d 2 m = some (0, zU m 0 23 2) := by
    intro a b c d
    unfold m_X8_define_j122
    rw [zLt_e, zU_eq, if_neg (by decide)]; rfl
  have bad1 : zCall y [(1, 1), (2, 2), (3, 3)] (some (.inr 1, x)) (some (0, zU m 0 23 1)) := Or.inr ⟨1, 1, 0, _, zU m 0 23 1, fun _ _ => rfl, by decide, rfl, rfl, zU_eq, zInv_t h _⟩
  have bad2 : zCall y [(1, 1), (2, 2), (3, 3)] (some (.inr 2, x)) (some (0, zU m 0 23 2)) := Or.inr ⟨2, 2, 0, _, zU m 0 23 2, fun _ _ => rfl, by decide, rfl, rfl, zU_eq, zInv_t h _⟩
  have ref : m_X8_define n v1 v2 v3 v4 m = m_X8_define_j31 n v1 v2 v3 v4 (if zTwo v2 then 1 else 0) m := by
    unfold m_X8_define m_X8_define_j26
    by_cases q1 : v2 = 1
    · rw [if_pos q1, q1]; rfl
    · rw [if_neg q1]
      by_cases q2 : v2 = 2
      · rw [if_pos q2, q2]; rfl
      · rw [if_neg q2]
        by_cases q4 : v2 = 4
        · rw [if_pos q4, q4]; rfl
        · rw [if_neg q4]
          by_cases q5 : v2 = 5
          · rw [if_pos q5, q5]; rfl
          · rw [if_neg q5]
            by_cases q8 : v2 = 8
            · rw [if_pos q8, q8]; rfl
            · rw [if_neg q8]
              have : zTwo v2 = false := by
                unfold zTwo
                simp [q1, q2, q4, q5, q8]
              rw [this]; rfl
  rw [ref]
  unfold m_X7_define m_X8_define_j31
  rcases line_cases n v1 with ⟨k, hk, rfl, c1, c2⟩ | ⟨c1, c2⟩
  · rw [c1, zBx_e]
    rcases in_cases 0 8 0 8 rfl rfl (by omega) (by omega) v2 with ⟨a, _, ha, ea, d1, d2⟩ | ⟨d1, d2⟩
    · rw [d1, zBd_e, d2, zBd_e, c2, zBd_e, if_neg ne10, if_neg ne10, if_neg ne10, p_takesFirst, zBd_e]
      -- behind the first line
      have tail : (v2 ≠ 0 → ∃ b, b < 16 ∧ v3 = nI b) → zCall y [(1, 1), (2, 2), (3, 3)] (m_X7_define_j29 n (nI k) v2 v3 v4 1 x) (m_X8_define_j65 n (nI k) v2 v3 v4 (if zTwo v2 then 1 else 0) 1 m) := by
        intro h2
        have fin : (zTwo v2 = true → ∃ b, b < 16 ∧ v4 = nI b) → zCall y [(1, 1), (2, 2), (3, 3)] (m_X7_define_j46 n (nI k) v2 v3 v4 1 x) (m_X8_define_j83 n (nI k) v2 v3 v4 1 1 m) := by
          intro h3
          unfold m_X7_define_j46 m_X8_define_j83
          rw [if_neg ne10, if_neg ne10, if_neg ne10]
          by_cases q3 : v2 = 3
          · rw [if_pos q3, if_pos q3]
            rcases in_cases 0 1000 0 1000 rfl rfl (by omega) (by omega) v4 with ⟨b, _, hb, eb, g1, g2⟩ | ⟨g1, g2⟩
            · rw [g1, zBd_e, g2, zBd_e, if_neg ne10, if_neg ne10]
              exact define_core hn x m h hk ⟨a, by omega, ea⟩ h2 h3 (fun _ => ⟨b, hb, eb⟩)
            · rw [g1, zBd_e, g2, zBd_e, if_pos rfl, if_pos rfl, thr2]
              unfold m_X7_define_j73
              rw [ca0, zBx_t]
              exact bad2
          · rw [if_neg q3, if_neg q3]
            exact define_core hn x m h hk ⟨a, by omega, ea⟩ h2 h3 (fun e => absurd e q3)
        unfold m_X7_define_j29 m_X8_define_j65
        rw [if_neg ne10, p_takesSecond, zBd_e]
        by_cases q : zTwo v2 = true
        · rw [if_pos q, if_neg ne10, if_neg ne10]
          rcases line_cases n v4 with ⟨b, hb, eb, g1, g2⟩ | ⟨g1, g2⟩
          · rw [g1, zBx_e, g2, zBd_e, if_neg ne10]
            exact fin (fun _ => ⟨b, hb, eb⟩)
          · rw [g1, zBx_t, g2, zBd_e, if_pos rfl]
            unfold m_X8_define_j83
            rw [if_pos rfl, thr1]
            exact bad1
        · rw [if_neg q, if_pos rfl, if_pos rfl]
          exact fin (fun e => absurd e q)
      by_cases q0 : v2 = 0
      · rw [if_pos q0, if_pos rfl, if_pos q0]
        exact tail (fun e => absurd q0 e)
      · rw [if_neg q0, if_neg ne10, if_neg q0]
        rcases line_cases n v3 with ⟨b, hb, eb, g1, g2⟩ | ⟨g1, g2⟩
        · rw [g1, zBx_e, g2, zBd_e, if_neg ne10]
          exact tail (fun _ => ⟨b, hb, eb⟩)
        · rw [g1, zBx_t, g2, zBd_e, if_pos rfl]
          unfold m_X8_define_j83
          rw [if_pos rfl, thr1]
          exact bad1
    · -- a kind that there is not
      have ntwo : zTwo v2 = false := by
        have hz : ∀ c : Int32, (∀ n s, m_X7_isWithin n c 0 8 s = some (0, s)) → zTwo c = false := by
          intro c hc
          have hne : ∀ d : Int32, m_X7_isWithin 0 d 0 8 x = some (1, x) → c ≠ d := by
            intro d hd e
            have := (hc 0 x).symm.trans (e ▸ hd)
            have e01 : (0 : Int32) = 1 := congrArg (fun q => match q with | some (a, _) => a | none => (0 : Int32)) this
            exact absurd e01 (by decide)
          unfold zTwo
          have w1 := hne 1 (by rw [p_isWithin, if_pos (by decide)])
          have w2 := hne 2 (by rw [p_isWithin, if_pos (by decide)])
          have w4 := hne 4 (by rw [p_isWithin, if_pos (by decide)])
          have w5 := hne 5 (by rw [p_isWithin, if_pos (by decide)])
          have w8 := hne 8 (by rw [p_isWithin, if_pos (by decide)])
          simp [w1, w2, w4, w5, w8]
        exact hz v2 d1
      rw [d1, zBd_e, d2, zBd_e, c2, zBd_e, if_pos rfl, if_neg ne10, if_pos rfl, ntwo]
      unfold m_X7_define_j29 m_X8_define_j65 m_X7_define_j46 m_X8_define_j83 m_X7_define_j73
      rw [if_pos rfl, if_pos rfl, ca0, zBx_t, if_pos (by decide), if_neg ne10, if_pos rfl, thr2]
      exact bad2
  · rw [c1, zBx_t]
    rcases in_cases 0 8 0 8 rfl rfl (by omega) (by omega) v2 with ⟨a, _, ha, ea, d1, d2⟩ | ⟨d1, d2⟩
    · rw [d2, zBd_e, c2, zBd_e, if_pos rfl]
      unfold m_X8_define_j83
      rw [if_pos rfl, thr1]
      exact bad1
    · rw [d2, zBd_e, c2, zBd_e, if_pos rfl]
      unfold m_X8_define_j83
      rw [if_pos rfl, thr1]
      exact bad1
end PDe
end
section
section PLw
/-! the law's cases and its loop -/
theorem zCall_y {y z : Nat} {ks : List (Nat × Int32)} {rx : Option ((Int32 ⊕ Nat) × zS)} {rm : Option (Int32 × zS)} (hz : y ≤ z) (h : zCall y ks rx rm) : zCall z ks rx rm := by
  rcases h with ⟨v, x', m', a, b, c, d⟩ | ⟨k, b, w, x', m', a1, a2, a3, a4, a5, a6⟩
  · exact Or.inl ⟨v, x', m', a, b, c, zInv_y d hz⟩
  · exact Or.inr ⟨k, b, w, x', m', a1, a2, a3, a4, a5, zInv_y a6 hz⟩
theorem zDir_y {y z : Nat} {rx rm : Option (Int32 × zS)} (hz : y ≤ z) (h : zDir y rx rm) : zDir z rx rm := by
  obtain ⟨v, x', m', a, b, c⟩ := h
  exact ⟨v, x', m', a, b, zInv_y c hz⟩
theorem rd1 {β : Type} {N i : Nat} {xs : Nat → Int32} (hi : i + 5 ≤ N) (hN : N ≤ 2560) (f : Int32 → Option β) : zRd xs (nI i + (1 : Int32)) N f = f (xs (i + 1)) := by rw [nI_s]; exact zRd_n (by omega) (by omega)
theorem rd2 {β : Type} {N i : Nat} {xs : Nat → Int32} (hi : i + 5 ≤ N) (hN : N ≤ 2560) (f : Int32 → Option β) : zRd xs (nI i + (2 : Int32)) N f = f (xs (i + 2)) := by rw [show nI i + (2 : Int32) = nI (i + 2) from nI_add i 2]; exact zRd_n (by omega) (by omega)
theorem rd3 {β : Type} {N i : Nat} {xs : Nat → Int32} (hi : i + 5 ≤ N) (hN : N ≤ 2560) (f : Int32 → Option β) : zRd xs (nI i + (3 : Int32)) N f = f (xs (i + 3)) := by rw [show nI i + (3 : Int32) = nI (i + 3) from nI_add i 3]; exact zRd_n (by omega) (by omega)
theorem rd4 {β : Type} {N i : Nat} {xs : Nat → Int32} (hi : i + 5 ≤ N) (hN : N ≤ 2560) (f : Int32 → Option β) : zRd xs (nI i + (4 : Int32)) N f = f (xs (i + 4)) := by rw [show nI i + (4 : Int32) = nI (i + 4) from nI_add i 4]; exact zRd_n (by omega) (by omega)
theorem K_c0 {n N i y : Nat} (hn : 3200 ≤ n) (hy : y ≤ 1000) {xs : Nat → Int32} {s : zS} (h : zJ y s) (hi : i + 5 ≤ N) (hN : N ≤ 2560) (rec : Int32 → zS → Option (Int32 × zS)) : ∃ s', m_L_law_c0 rec n N xs (nI i) s = rec (nI i + (5 : Int32)) s' ∧ zJ (y + 1) s' := by
  have hn1 : 100 ≤ n := by omega
  unfold m_L_law_c0
  simp only [rd1 hi hN, rd2 hi hN, rd3 hi hN, rd4 hi hN]
  exact L_void (n := n) (ks := [(1, 1), (2, 2), (3, 3)]) (rx := m_X7_define n (xs (i + 1)) (xs (i + 2)) (xs (i + 3)) (xs (i + 4))) (rm := m_X8_define n (xs (i + 1)) (xs (i + 2)) (xs (i + 3)) (xs (i + 4))) (fun x m h => zCall_y (Nat.le_succ _) (C_define hn1 x m h)) h rec (nI i)
theorem K_c1 {n N i y : Nat} (hn : 3200 ≤ n) (hy : y ≤ 1000) {xs : Nat → Int32} {s : zS} (h : zJ y s) (hi : i + 5 ≤ N) (hN : N ≤ 2560) (rec : Int32 → zS → Option (Int32 × zS)) : ∃ s', m_L_law_c1 rec n N xs (nI i) s = rec (nI i + (5 : Int32)) s' ∧ zJ (y + 1) s' := by
  have hn1 : 100 ≤ n := by omega
  unfold m_L_law_c1
  simp only [rd1 hi hN, rd2 hi hN]
  exact L_val (n := n) (ks := [(1, 1), (2, 2)]) (rx := m_X7_answer n (xs (i + 1)) (xs (i + 2))) (rm := m_X8_answer n (xs (i + 1)) (xs (i + 2))) (fun x m h => zCall_y (Nat.le_succ _) (C_answer x m h)) h rec (nI i)
theorem K_c2 {n N i y : Nat} (hn : 3200 ≤ n) (hy : y ≤ 1000) {xs : Nat → Int32} {s : zS} (h : zJ y s) (hi : i + 5 ≤ N) (hN : N ≤ 2560) (rec : Int32 → zS → Option (Int32 × zS)) : ∃ s', m_L_law_c2 rec n N xs (nI i) s = rec (nI i + (5 : Int32)) s' ∧ zJ (y + 1) s' := by
  have hn1 : 100 ≤ n := by omega
  unfold m_L_law_c2
  simp only [rd1 hi hN]
  exact L_val (n := n) (ks := [(1, 1)]) (rx := m_X7_kindOf n (xs (i + 1))) (rm := m_X8_kindOf n (xs (i + 1))) (fun x m h => zCall_y (Nat.le_succ _) (C_kindOf x m h)) h rec (nI i)
theorem K_c3 {n N i y : Nat} (hn : 3200 ≤ n) (hy : y ≤ 1000) {xs : Nat → Int32} {s : zS} (h : zJ y s) (hi : i + 5 ≤ N) (hN : N ≤ 2560) (rec : Int32 → zS → Option (Int32 × zS)) : ∃ s', m_L_law_c3 rec n N xs (nI i) s = rec (nI i + (5 : Int32)) s' ∧ zJ (y + 1) s' := by
  have hn1 : 100 ≤ n := by omega
  unfold m_L_law_c3
  simp only [rd1 hi hN]
  exact L_val (n := n) (ks := [(1, 1)]) (rx := m_X7_value n (xs (i + 1))) (rm := m_X8_value n (xs (i + 1))) (fun x m h => zCall_y (Nat.le_succ _) (C_value hn1 x m h)) h rec (nI i)
theorem K_c4 {n N i y : Nat} (hn : 3200 ≤ n) (hy : y ≤ 1000) {xs : Nat → Int32} {s : zS} (h : zJ y s) (hi : i + 5 ≤ N) (hN : N ≤ 2560) (rec : Int32 → zS → Option (Int32 × zS)) : ∃ s', m_L_law_c4 rec n N xs (nI i) s = rec (nI i + (5 : Int32)) s' ∧ zJ (y + 1) s' := by
  have hn1 : 100 ≤ n := by omega
  unfold m_L_law_c4
  simp only [rd1 hi hN, rd2 hi hN]
  exact L_val (n := n) (ks := [(1, 1), (2, 2), (3, 3)]) (rx := m_X7_boundFor n (xs (i + 1)) (xs (i + 2))) (rm := m_X8_boundFor n (xs (i + 1)) (xs (i + 2))) (fun x m h => zCall_y (Nat.le_succ _) (C_boundFor hn1 x m h)) h rec (nI i)
theorem K_c5 {n N i y : Nat} (hn : 3200 ≤ n) (hy : y ≤ 1000) {xs : Nat → Int32} {s : zS} (h : zJ y s) (hi : i + 5 ≤ N) (hN : N ≤ 2560) (rec : Int32 → zS → Option (Int32 × zS)) : ∃ s', m_L_law_c5 rec n N xs (nI i) s = rec (nI i + (5 : Int32)) s' ∧ zJ (y + 1) s' := by
  have hn1 : 100 ≤ n := by omega
  unfold m_L_law_c5
  simp only [rd1 hi hN, rd2 hi hN]
  exact L_bool (n := n) (ks := [(1, 1)]) (rx := m_X7_dependsOn n (xs (i + 1)) (xs (i + 2))) (rm := m_X8_dependsOn n (xs (i + 1)) (xs (i + 2))) (fun x m h => zCall_y (Nat.le_succ _) (C_dependsOn hn1 x m h)) h rec (nI i)
theorem K_c6 {n N i y : Nat} (hn : 3200 ≤ n) (hy : y ≤ 1000) {xs : Nat → Int32} {s : zS} (h : zJ y s) (hi : i + 5 ≤ N) (hN : N ≤ 2560) (rec : Int32 → zS → Option (Int32 × zS)) : ∃ s', m_L_law_c6 rec n N xs (nI i) s = rec (nI i + (5 : Int32)) s' ∧ zJ (y + 1) s' := by
  have hn1 : 100 ≤ n := by omega
  unfold m_L_law_c6
  simp only [rd1 hi hN]
  exact L_val (n := n) (ks := [(1, 1)]) (rx := m_X7_influence n (xs (i + 1))) (rm := m_X8_influence n (xs (i + 1))) (fun x m h => zCall_y (Nat.le_succ _) (C_influence hn1 x m h)) h rec (nI i)
theorem K_c7 {n N i y : Nat} (hn : 3200 ≤ n) (hy : y ≤ 1000) {xs : Nat → Int32} {s : zS} (h : zJ y s) (hi : i + 5 ≤ N) (hN : N ≤ 2560) (rec : Int32 → zS → Option (Int32 × zS)) : ∃ s', m_L_law_c7 rec n N xs (nI i) s = rec (nI i + (5 : Int32)) s' ∧ zJ (y + 1) s' := by
  have hn1 : 100 ≤ n := by omega
  unfold m_L_law_c7
  simp only [rd1 hi hN, rd2 hi hN]
  exact L_val (n := n) (ks := [(1, 1)]) (rx := m_X7_why n (xs (i + 1)) (xs (i + 2))) (rm := m_X8_why n (xs (i + 1)) (xs (i + 2))) (fun x m h => zCall_y (Nat.le_succ _) (C_why hn1 x m h)) h rec (nI i)
theorem K_c8 {n N i y : Nat} (hn : 3200 ≤ n) (hy : y ≤ 1000) {xs : Nat → Int32} {s : zS} (h : zJ y s) (hi : i + 5 ≤ N) (hN : N ≤ 2560) (rec : Int32 → zS → Option (Int32 × zS)) : ∃ s', m_L_law_c8 rec n N xs (nI i) s = rec (nI i + (5 : Int32)) s' ∧ zJ (y + 1) s' := by
  have hn1 : 100 ≤ n := by omega
  unfold m_L_law_c8
  simp only [rd1 hi hN, rd2 hi hN]
  exact L_val (n := n) (ks := [(2, 1), (3, 2)]) (rx := m_X7_bracket n (xs (i + 1)) (xs (i + 2))) (rm := m_X8_bracket n (xs (i + 1)) (xs (i + 2))) (fun x m h => zCall_y (Nat.le_succ _) (C_bracket hn1 x m h)) h rec (nI i)
theorem K_c9 {n N i y : Nat} (hn : 3200 ≤ n) (hy : y ≤ 1000) {xs : Nat → Int32} {s : zS} (h : zJ y s) (hi : i + 5 ≤ N) (hN : N ≤ 2560) (rec : Int32 → zS → Option (Int32 × zS)) : ∃ s', m_L_law_c9 rec n N xs (nI i) s = rec (nI i + (5 : Int32)) s' ∧ zJ (y + 1) s' := by
  have hn1 : 100 ≤ n := by omega
  unfold m_L_law_c9
  exact L_dir (rx := m_X7_dropBrackets n) (rm := m_X8_dropBrackets n) (fun x m h => zDir_y (Nat.le_succ _) (C_dropBrackets x m h)) h rec (nI i)
theorem K_c10 {n N i y : Nat} (hn : 3200 ≤ n) (hy : y ≤ 1000) {xs : Nat → Int32} {s : zS} (h : zJ y s) (hi : i + 5 ≤ N) (hN : N ≤ 2560) (rec : Int32 → zS → Option (Int32 × zS)) : ∃ s', m_L_law_c10 rec n N xs (nI i) s = rec (nI i + (5 : Int32)) s' ∧ zJ (y + 1) s' := by
  have hn1 : 100 ≤ n := by omega
  unfold m_L_law_c10
  simp only [rd1 hi hN]
  exact L_val (n := n) (ks := [(2, 1)]) (rx := m_X7_taxOn n (xs (i + 1))) (rm := m_X8_taxOn n (xs (i + 1))) (fun x m h => zCall_y (Nat.le_succ _) (C_taxOn hn1 x m h)) h rec (nI i)
theorem K_c11 {n N i y : Nat} (hn : 3200 ≤ n) (hy : y ≤ 1000) {xs : Nat → Int32} {s : zS} (h : zJ y s) (hi : i + 5 ≤ N) (hN : N ≤ 2560) (rec : Int32 → zS → Option (Int32 × zS)) : ∃ s', m_L_law_c11 rec n N xs (nI i) s = rec (nI i + (5 : Int32)) s' ∧ zJ (y + 1) s' := by
  have hn1 : 100 ≤ n := by omega
  unfold m_L_law_c11
  simp only [rd1 hi hN, rd2 hi hN]
  exact L_val (n := n) (ks := [(2, 1), (3, 2)]) (rx := m_X7_carry n (xs (i + 1)) (xs (i + 2))) (rm := m_X8_carry n (xs (i + 1)) (xs (i + 2))) (fun x m h => zCall_y (Nat.le_succ _) (C_carry hn1 hy x m h)) h rec (nI i)
theorem K_c12 {n N i y : Nat} (hn : 3200 ≤ n) (hy : y ≤ 1000) {xs : Nat → Int32} {s : zS} (h : zJ y s) (hi : i + 5 ≤ N) (hN : N ≤ 2560) (rec : Int32 → zS → Option (Int32 × zS)) : ∃ s', m_L_law_c12 rec n N xs (nI i) s = rec (nI i + (5 : Int32)) s' ∧ zJ (y + 1) s' := by
  have hn1 : 100 ≤ n := by omega
  unfold m_L_law_c12
  exact L_dir (rx := m_X7_carried n) (rm := m_X8_carried n) (fun x m h => zDir_y (Nat.le_succ _) (C_carried hn1 x m h)) h rec (nI i)
theorem K_c13 {n N i y : Nat} (hn : 3200 ≤ n) (hy : y ≤ 1000) {xs : Nat → Int32} {s : zS} (h : zJ y s) (hi : i + 5 ≤ N) (hN : N ≤ 2560) (rec : Int32 → zS → Option (Int32 × zS)) : ∃ s', m_L_law_c13 rec n N xs (nI i) s = rec (nI i + (5 : Int32)) s' ∧ zJ (y + 1) s' := by
  have hn1 : 100 ≤ n := by omega
  unfold m_L_law_c13
  simp only [rd1 hi hN]
  exact L_val (n := n) (ks := [(1, 1)]) (rx := m_X7_carriedAt n (xs (i + 1))) (rm := m_X8_carriedAt n (xs (i + 1))) (fun x m h => zCall_y (Nat.le_succ _) (C_carriedAt x m h)) h rec (nI i)
theorem K_c14 {n N i y : Nat} (hn : 3200 ≤ n) (hy : y ≤ 1000) {xs : Nat → Int32} {s : zS} (h : zJ y s) (hi : i + 5 ≤ N) (hN : N ≤ 2560) (rec : Int32 → zS → Option (Int32 × zS)) : ∃ s', m_L_law_c14 rec n N xs (nI i) s = rec (nI i + (5 : Int32)) s' ∧ zJ (y + 1) s' := by
  have hn1 : 100 ≤ n := by omega
  unfold m_L_law_c14
  exact L_dir (rx := m_X7_year n) (rm := m_X8_year n) (fun x m h => zDir_y (Nat.le_succ _) (C_year x m h)) h rec (nI i)
theorem K_c15 {n N i y : Nat} (hn : 3200 ≤ n) (hy : y ≤ 1000) {xs : Nat → Int32} {s : zS} (h : zJ y s) (hi : i + 5 ≤ N) (hN : N ≤ 2560) (rec : Int32 → zS → Option (Int32 × zS)) : ∃ s', m_L_law_c15 rec n N xs (nI i) s = rec (nI i + (5 : Int32)) s' ∧ zJ (y + 1) s' := by
  have hn1 : 100 ≤ n := by omega
  unfold m_L_law_c15
  exact L_dir (rx := m_X7_closeYear n) (rm := m_X8_closeYear n) (fun x m h => C_closeYear hn1 x m h) h rec (nI i)
theorem K_c16 {n N i y : Nat} (hn : 3200 ≤ n) (hy : y ≤ 1000) {xs : Nat → Int32} {s : zS} (h : zJ y s) (hi : i + 5 ≤ N) (hN : N ≤ 2560) (rec : Int32 → zS → Option (Int32 × zS)) : ∃ s', m_L_law_c16 rec n N xs (nI i) s = rec (nI i + (5 : Int32)) s' ∧ zJ (y + 1) s' := by
  have hn1 : 100 ≤ n := by omega
  unfold m_L_law_c16
  simp only [rd1 hi hN, rd2 hi hN]
  exact L_val (n := n) (ks := [(2, 1), (3, 2)]) (rx := m_X7_addCredit n (xs (i + 1)) (xs (i + 2))) (rm := m_X8_addCredit n (xs (i + 1)) (xs (i + 2))) (fun x m h => zCall_y (Nat.le_succ _) (C_addCredit x m h)) h rec (nI i)
theorem K_c17 {n N i y : Nat} (hn : 3200 ≤ n) (hy : y ≤ 1000) {xs : Nat → Int32} {s : zS} (h : zJ y s) (hi : i + 5 ≤ N) (hN : N ≤ 2560) (rec : Int32 → zS → Option (Int32 × zS)) : ∃ s', m_L_law_c17 rec n N xs (nI i) s = rec (nI i + (5 : Int32)) s' ∧ zJ (y + 1) s' := by
  have hn1 : 100 ≤ n := by omega
  unfold m_L_law_c17
  exact L_val (n := n) (ks := [(3, 1)]) (rx := m_X7_dropCredit n) (rm := m_X8_dropCredit n) (fun x m h => zCall_y (Nat.le_succ _) (C_dropCredit x m h)) h rec (nI i)
theorem K_c18 {n N i y : Nat} (hn : 3200 ≤ n) (hy : y ≤ 1000) {xs : Nat → Int32} {s : zS} (h : zJ y s) (hi : i + 5 ≤ N) (hN : N ≤ 2560) (rec : Int32 → zS → Option (Int32 × zS)) : ∃ s', m_L_law_c18 rec n N xs (nI i) s = rec (nI i + (5 : Int32)) s' ∧ zJ (y + 1) s' := by
  have hn1 : 100 ≤ n := by omega
  unfold m_L_law_c18
  simp only [rd1 hi hN, rd2 hi hN]
  exact L_val (n := n) (ks := [(1, 1)]) (rx := m_X7_creditAt n (xs (i + 1)) (xs (i + 2))) (rm := m_X8_creditAt n (xs (i + 1)) (xs (i + 2))) (fun x m h => zCall_y (Nat.le_succ _) (C_creditAt hn x m h)) h rec (nI i)
theorem K_c19 {n N i y : Nat} (hn : 3200 ≤ n) (hy : y ≤ 1000) {xs : Nat → Int32} {s : zS} (h : zJ y s) (hi : i + 5 ≤ N) (hN : N ≤ 2560) (rec : Int32 → zS → Option (Int32 × zS)) : ∃ s', m_L_law_c19 rec n N xs (nI i) s = rec (nI i + (5 : Int32)) s' ∧ zJ (y + 1) s' := by
  have hn1 : 100 ≤ n := by omega
  unfold m_L_law_c19
  simp only [rd1 hi hN]
  exact L_val (n := n) (ks := [(1, 1)]) (rx := m_X7_afterCredits n (xs (i + 1))) (rm := m_X8_afterCredits n (xs (i + 1))) (fun x m h => zCall_y (Nat.le_succ _) (C_afterCredits hn1 x m h)) h rec (nI i)
theorem K_c20 {n N i y : Nat} (hn : 3200 ≤ n) (hy : y ≤ 1000) {xs : Nat → Int32} {s : zS} (h : zJ y s) (hi : i + 5 ≤ N) (hN : N ≤ 2560) (rec : Int32 → zS → Option (Int32 × zS)) : ∃ s', m_L_law_c20 rec n N xs (nI i) s = rec (nI i + (5 : Int32)) s' ∧ zJ (y + 1) s' := by
  have hn1 : 100 ≤ n := by omega
  unfold m_L_law_c20
  simp only [rd1 hi hN]
  exact L_val (n := n) (ks := [(1, 1)]) (rx := m_X7_bestSum n (xs (i + 1))) (rm := m_X8_bestSum n (xs (i + 1))) (fun x m h => zCall_y (Nat.le_succ _) (C_bestSum hn x m h)) h rec (nI i)
theorem K_step {n N i y f : Nat} (hn : 3200 ≤ n) (hy : y ≤ 1000) {xs : Nat → Int32} {s : zS} (h : zJ y s) (hi : i + 5 ≤ N) (hN : N ≤ 2560) : ∃ s', m_L_law_j23 n N xs (f + 1) (nI i) s = m_L_law_j23 n N xs f (nI (i + 5)) s' ∧ zJ (y + 1) s' := by
  have hge : ¬ (Int32.ofNat N) - (5 : Int32) < nI i := by
    rw [show (Int32.ofNat N) - (5 : Int32) = nI (N - 5) from n_sub (b := 5) (by omega)]
    exact nI_nlt (by omega) (by omega)
  have e5 : nI i + (5 : Int32) = nI (i + 5) := nI_add i 5
  rw [m_L_law_j23, if_neg hge, zRd_n (by omega) (by omega), zLt_e, ← e5]
  generalize xs i &&& (31 : Int32) = w
  by_cases q0 : w = 0
  · rw [if_pos q0]
    exact K_c0 hn hy h hi hN (m_L_law_j23 n N xs f)
  rw [if_neg q0]
  by_cases q1 : w = 1
  · rw [if_pos q1]
    exact K_c1 hn hy h hi hN (m_L_law_j23 n N xs f)
  rw [if_neg q1]
  by_cases q2 : w = 2
  · rw [if_pos q2]
    exact K_c2 hn hy h hi hN (m_L_law_j23 n N xs f)
  rw [if_neg q2]
  by_cases q3 : w = 3
  · rw [if_pos q3]
    exact K_c3 hn hy h hi hN (m_L_law_j23 n N xs f)
  rw [if_neg q3]
  by_cases q4 : w = 4
  · rw [if_pos q4]
    exact K_c4 hn hy h hi hN (m_L_law_j23 n N xs f)
  rw [if_neg q4]
  by_cases q5 : w = 5
  · rw [if_pos q5]
    exact K_c5 hn hy h hi hN (m_L_law_j23 n N xs f)
  rw [if_neg q5]
  by_cases q6 : w = 6
  · rw [if_pos q6]
    exact K_c6 hn hy h hi hN (m_L_law_j23 n N xs f)
  rw [if_neg q6]
  by_cases q7 : w = 7
  · rw [if_pos q7]
    exact K_c7 hn hy h hi hN (m_L_law_j23 n N xs f)
  rw [if_neg q7]
  by_cases q8 : w = 8
  · rw [if_pos q8]
    exact K_c8 hn hy h hi hN (m_L_law_j23 n N xs f)
  rw [if_neg q8]
  by_cases q9 : w = 9
  · rw [if_pos q9]
    exact K_c9 hn hy h hi hN (m_L_law_j23 n N xs f)
  rw [if_neg q9]
  by_cases q10 : w = 10
  · rw [if_pos q10]
    exact K_c10 hn hy h hi hN (m_L_law_j23 n N xs f)
  rw [if_neg q10]
  by_cases q11 : w = 11
  · rw [if_pos q11]
    exact K_c11 hn hy h hi hN (m_L_law_j23 n N xs f)
  rw [if_neg q11]
  by_cases q12 : w = 12
  · rw [if_pos q12]
    exact K_c12 hn hy h hi hN (m_L_law_j23 n N xs f)
  rw [if_neg q12]
  by_cases q13 : w = 13
  · rw [if_pos q13]
    exact K_c13 hn hy h hi hN (m_L_law_j23 n N xs f)
  rw [if_neg q13]
  by_cases q14 : w = 14
  · rw [if_pos q14]
    exact K_c14 hn hy h hi hN (m_L_law_j23 n N xs f)
  rw [if_neg q14]
  by_cases q15 : w = 15
  · rw [if_pos q15]
    exact K_c15 hn hy h hi hN (m_L_law_j23 n N xs f)
  rw [if_neg q15]
  by_cases q16 : w = 16
  · rw [if_pos q16]
    exact K_c16 hn hy h hi hN (m_L_law_j23 n N xs f)
  rw [if_neg q16]
  by_cases q17 : w = 17
  · rw [if_pos q17]
    exact K_c17 hn hy h hi hN (m_L_law_j23 n N xs f)
  rw [if_neg q17]
  by_cases q18 : w = 18
  · rw [if_pos q18]
    exact K_c18 hn hy h hi hN (m_L_law_j23 n N xs f)
  rw [if_neg q18]
  by_cases q19 : w = 19
  · rw [if_pos q19]
    exact K_c19 hn hy h hi hN (m_L_law_j23 n N xs f)
  rw [if_neg q19]
  by_cases q20 : w = 20
  · rw [if_pos q20]
    exact K_c20 hn hy h hi hN (m_L_law_j23 n N xs f)
  rw [if_neg q20]
  exact ⟨s, rfl, zInv_y h (Nat.le_succ _)⟩
theorem K_loop {n N : Nat} (hn : 3200 ≤ n) {xs : Nat → Int32} (hN : N ≤ 2560) : ∀ f i (s : zS), 514 ≤ f + i → 5 * i ≤ N → zJ i s → ∃ s', m_L_law_j23 n N xs f (nI (5 * i)) s = some (1, s') := by
  intro f
  induction f with
  | zero => intro i s h1 h2; exact absurd h2 (by omega)
  | succ f ih =>
    intro i s h1 h2 hJ
    by_cases q : 5 * i + 5 ≤ N
    · obtain ⟨s', e, hJ'⟩ := K_step (f := f) (xs := xs) hn (show i ≤ 1000 by omega) hJ q hN
      rw [e, show 5 * i + 5 = 5 * (i + 1) by omega]
      exact ih (i + 1) s' (by omega) (by omega) hJ'
    · have hlt : (Int32.ofNat N) - (5 : Int32) < nI (5 * i) := by
        rw [Int32.lt_iff_toInt_lt, show (Int32.ofNat N) - (5 : Int32) = nI N - nI 5 from rfl, pk_sub_toInt (by omega) (by omega), nI_toInt (by omega)]
        omega
      rw [m_L_law_j23, if_pos hlt]
      exact ⟨s, rfl⟩
end PLw
end
section
def z0 : zS := fun _ _ => 0
def zCut (n : Nat) (σ : zS) : zS := fun k => if k < n then σ k else fun _ => 0
end
section
section PPl
/-! the pure statement: a new object, and every script -/
theorem wf_0 {K F G : Nat → Int32} (h : ∀ i, K i = 0) : zWf K F G := by
  intro i _
  refine ⟨⟨0, by decide, h i⟩, fun q => absurd (h i) q, fun q => ?_, fun q => ?_⟩
  · rw [h i] at q; exact absurd q (by decide)
  · rw [h i] at q; exact absurd q (by decide)
theorem zR_0 {K F G : Nat → Int32} (h : ∀ i, K i = 0) (i j : Nat) : ¬ zR K F G i j = true := by
  have u0 : ∀ i j, bt (zUse (K i) (F i) (G i) false) j = false := by
    intro i j
    unfold zUse
    rw [h i, if_pos rfl, if_neg (by decide), or_0, b_0]
  intro q
  rcases zTC_last q with e | ⟨m, _, _, e⟩
  · exact absurd ((u0 i j).symm.trans e) (by decide)
  · exact absurd ((u0 m j).symm.trans e) (by decide)
theorem pure_pl : ∃ (n : Nat) (r9 : Int32) (s9 : zS), m_X4_make n (zU (zU z0 21 5 (-1 : Int32)) 23 5 (-1 : Int32)) = some (r9, s9) ∧ ∀ (N : Nat) (xs : Nat → Int32), N ≤ 2560 → ∃ s' : zS, m_L_law_j23 n N xs 514 0 (zCut 27 s9) = some (1, s') := by
  have bz : ∀ c, c ≠ 21 → c ≠ 23 → zU (zU z0 21 5 (-1 : Int32)) 23 5 (-1 : Int32) c = fun _ => 0 := fun c c1 c2 => by rw [zU_ne c2, zU_ne c1]; rfl
  have b2 := bz 2 (by decide) (by decide)
  have b3 := bz 3 (by decide) (by decide)
  have b4 := bz 4 (by decide) (by decide)
  have hk : ∀ i, (zU (zU z0 21 5 (-1 : Int32)) 23 5 (-1 : Int32)) 2 i = 0 := fun i => by rw [b2]
  have hw : zWf ((zU (zU z0 21 5 (-1 : Int32)) 23 5 (-1 : Int32)) 2) ((zU (zU z0 21 5 (-1 : Int32)) 23 5 (-1 : Int32)) 3) ((zU (zU z0 21 5 (-1 : Int32)) 23 5 (-1 : Int32)) 4) := wf_0 hk
  rcases p_make (n := 4000) (by decide) hw with ⟨s, s1, s2, s3⟩ | ⟨s, s1, s2, i, v, hi, hr, _⟩
  · refine ⟨4000, 1, s, s1, fun N xs hN => ?_⟩
    have S : ∀ c, c ≠ 6 → c ≠ 7 → c ≠ 8 → c ≠ 9 → c ≠ 21 → c ≠ 23 → s c = fun _ => 0 := fun c c1 c2 c3 c4 c5 c6 => by rw [s2 c c1 c2 c3 c4, bz c c5 c6]
    have X : ∀ c, c < 27 → zSo (zCut 27 s) 0 c = s c := fun c hc => by
      show (if c + 0 < 27 then s (c + 0) else fun _ => 0) = s c
      rw [if_pos (by omega)]; rfl
    have M : ∀ c, zSo (zCut 27 s) 27 c = fun _ => 0 := fun c => by
      show (if c + 27 < 27 then s (c + 27) else fun _ => 0) = fun _ => 0
      rw [if_neg (by omega)]
    have XS : ∀ c, c < 27 → c ≠ 6 → c ≠ 7 → c ≠ 8 → c ≠ 9 → c ≠ 21 → c ≠ 23 → zSo (zCut 27 s) 0 c = fun _ => 0 := fun c hc c1 c2 c3 c4 c5 c6 => by rw [X c hc, S c c1 c2 c3 c4 c5 c6]
    have i2 : zI2 s := zI2_of hw s3 (s2 2 (by decide) (by decide) (by decide) (by decide)) (s2 3 (by decide) (by decide) (by decide) (by decide)) (s2 4 (by decide) (by decide) (by decide) (by decide)) (fun k _ => ⟨0, by decide, by rw [S 5 (by decide) (by decide) (by decide) (by decide) (by decide) (by decide)]; rfl⟩)
    have z10 := XS 10 (by decide) (by decide) (by decide) (by decide) (by decide) (by decide) (by decide)
    have z13 := XS 13 (by decide) (by decide) (by decide) (by decide) (by decide) (by decide) (by decide)
    have z14 := XS 14 (by decide) (by decide) (by decide) (by decide) (by decide) (by decide) (by decide)
    have z15 := XS 15 (by decide) (by decide) (by decide) (by decide) (by decide) (by decide) (by decide)
    have z16 := XS 16 (by decide) (by decide) (by decide) (by decide) (by decide) (by decide) (by decide)
    have z17 := XS 17 (by decide) (by decide) (by decide) (by decide) (by decide) (by decide) (by decide)
    have z18 := XS 18 (by decide) (by decide) (by decide) (by decide) (by decide) (by decide) (by decide)
    have z20 := XS 20 (by decide) (by decide) (by decide) (by decide) (by decide) (by decide) (by decide)
    have z22 := XS 22 (by decide) (by decide) (by decide) (by decide) (by decide) (by decide) (by decide)
    have z24 := XS 24 (by decide) (by decide) (by decide) (by decide) (by decide) (by decide) (by decide)
    have hJ : zJ 0 (zCut 27 s) := by
      refine ⟨⟨?_, ?_, ?_, ?_⟩, zI2_c i2 (X 2 (by decide)) (X 3 (by decide)) (X 4 (by decide)) (X 5 (by decide)) (X 7 (by decide)) (X 8 (by decide)) (X 9 (by decide)), ⟨0, ?_, ?_, ⟨by decide, fun i hi => absurd hi (Nat.not_lt_zero i)⟩, ⟨by decide, fun i hi => absurd hi (Nat.not_lt_zero i)⟩, fun i j _ hj => absurd hj (Nat.not_lt_zero j), fun i j hi => absurd hi (Nat.not_lt_zero i), (show List.Perm ([] : List (Nat × Nat)) [] from List.Perm.refl _)⟩, ⟨⟨0, by decide, ?_, ?_⟩, ⟨0, by decide, ?_, ?_⟩, ?_, ?_, ?_⟩, ⟨⟨0, by decide, ?_, ?_⟩, ?_, ?_, ?_, ?_⟩, ⟨?_, ?_⟩, ⟨?_, ?_⟩⟩
      · rw [XS 2 (by decide) (by decide) (by decide) (by decide) (by decide) (by decide) (by decide), M]
      · rw [XS 3 (by decide) (by decide) (by decide) (by decide) (by decide) (by decide) (by decide), M]
      · rw [XS 4 (by decide) (by decide) (by decide) (by decide) (by decide) (by decide) (by decide), M]
      · rw [XS 5 (by decide) (by decide) (by decide) (by decide) (by decide) (by decide) (by decide), M]
      · rw [z10]; rfl
      · rw [M]; rfl
      · rw [z13]; rfl
      · rw [M]; rfl
      · rw [z13]; rfl
      · rw [M]; rfl
      · rw [z14, M]
      · rw [z15, M]
      · intro i _; rw [z14]; exact ⟨0, by decide, rfl⟩
      · rw [z16]; rfl
      · rw [M]; rfl
      · rw [z17, M]
      · rw [z18, M]
      · rw [z20, M]
      · intro i _; rw [z17]; exact ⟨0, by decide, rfl⟩
      · intro k _; rw [z22]; exact zBn_0
      · intro k _; rw [z24]; exact zBn_0
      · intro k _; rw [M]; exact zBn_0
      · intro k _; rw [M]; exact Or.inl rfl
    exact K_loop (n := 4000) (by decide) hN 514 0 _ (by decide) (by omega) hJ
  · exact absurd hr (zR_0 hk i i)
end PPl
end
