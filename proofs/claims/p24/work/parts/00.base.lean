/-! the words that the models are written in: all numbers of a world as one function -/
abbrev zS : Type := Nat → Nat → Int32
def zU (σ : zS) (k j : Nat) (v : Int32) : zS := fun i => if i = k then upd (σ i) j v else σ i
section ZM
/-! the words that the models are written in -/
variable {β : Type}
def zRt (v : Int32) (σ : zS) : Option (Int32 × zS) := some (v, σ)
def zRx (v : Int32) (σ : zS) : Option ((Int32 ⊕ Nat) × zS) := some (.inl v, σ)
def zTx (k : Nat) (σ : zS) : Option ((Int32 ⊕ Nat) × zS) := some (.inr k, σ)
def zLt {α : Type} (x : α) (f : α → Option β) : Option β := f x
def zRd (g : Nat → Int32) (i : Int32) (n : Nat) (f : Int32 → Option β) : Option β := if i < 0 ∨ n ≤ i.toNatClampNeg then none else f (g i.toNatClampNeg)
def zWr (σ : zS) (k : Nat) (i : Int32) (n : Nat) (v : Int32) (f : zS → Option β) : Option β := if i < 0 ∨ n ≤ i.toNatClampNeg then none else f (zU σ k i.toNatClampNeg v)
def zGd (c : Prop) [Decidable c] (x : Option β) : Option β := if c then x else none
def zBd (x : Option (Int32 × zS)) (f : Int32 → zS → Option β) : Option β := match x with
  | some (v, s) => f v s
  | none => none
def zBx (x : Option ((Int32 ⊕ Nat) × zS)) (f : Int32 → zS → Option ((Int32 ⊕ Nat) × zS)) : Option ((Int32 ⊕ Nat) × zS) := match x with
  | some (.inl v, s) => f v s
  | some (.inr k, s) => some (.inr k, s)
  | none => none
theorem zRt_of {v r : Int32} {σ σ' : zS} (h : zRt v σ = some (r, σ')) : (Sum.inl r : Int32 ⊕ Nat) = .inl v ∧ σ' = σ := by cases h; exact ⟨rfl, rfl⟩
theorem zRx_of {v : Int32} {res : Int32 ⊕ Nat} {σ σ' : zS} (h : zRx v σ = some (res, σ')) : res = .inl v ∧ σ' = σ := by cases h; exact ⟨rfl, rfl⟩
theorem zTx_of {k : Nat} {res : Int32 ⊕ Nat} {σ σ' : zS} (h : zTx k σ = some (res, σ')) : res = .inr k ∧ σ' = σ := by cases h; exact ⟨rfl, rfl⟩
theorem zLt_of {α : Type} {x : α} {f : α → Option β} {r : β} (h : zLt x f = some r) : ∃ y, y = x ∧ f y = some r := ⟨x, rfl, h⟩
theorem zRd_of {g : Nat → Int32} {i : Int32} {n : Nat} {f : Int32 → Option β} {r : β} (h : zRd g i n f = some r) : ∃ v, vp_in i n ∧ v = g i.toNatClampNeg ∧ f v = some r := by
  unfold zRd at h
  split at h
  · cases h
  · exact ⟨_, by assumption, rfl, h⟩
theorem zWr_of {σ : zS} {k : Nat} {i : Int32} {n : Nat} {v : Int32} {f : zS → Option β} {r : β} (h : zWr σ k i n v f = some r) : ∃ σ1, vp_in i n ∧ σ1 = zU σ k i.toNatClampNeg v ∧ f σ1 = some r := by
  unfold zWr at h
  split at h
  · cases h
  · exact ⟨_, by assumption, rfl, h⟩
theorem zGd_of {c : Prop} [Decidable c] {x : Option β} {r : β} (h : zGd c x = some r) : c ∧ x = some r := by
  unfold zGd at h
  split at h
  · exact ⟨by assumption, h⟩
  · cases h
theorem zBd_of {x : Option (Int32 × zS)} {f : Int32 → zS → Option β} {r : β} (h : zBd x f = some r) : ∃ v s, x = some (v, s) ∧ f v s = some r := by
  unfold zBd at h
  split at h
  · exact ⟨_, _, rfl, h⟩
  · cases h
theorem zBx_of {x : Option ((Int32 ⊕ Nat) × zS)} {f : Int32 → zS → Option ((Int32 ⊕ Nat) × zS)} {r : Int32 ⊕ Nat} {σ' : zS} (h : zBx x f = some (r, σ')) : (∃ v s, x = some (.inl v, s) ∧ f v s = some (r, σ')) ∨ (∃ k, x = some (.inr k, σ') ∧ r = .inr k) := by
  unfold zBx at h
  split at h
  · exact Or.inl ⟨_, _, rfl, h⟩
  · cases h; exact Or.inr ⟨_, rfl, rfl⟩
  · cases h
theorem zIt {c : Prop} [Decidable c] {a b : Option β} {r : β} (h : (if c then a else b) = some r) (hc : c) : a = some r := by rw [if_pos hc] at h; exact h
theorem zIf {c : Prop} [Decidable c] {a b : Option β} {r : β} (h : (if c then a else b) = some r) (hc : ¬ c) : b = some r := by rw [if_neg hc] at h; exact h
end ZM
def zSo (σ : zS) (o : Nat) : zS := fun k => σ (k + o)
def zMix (o n : Nat) (σ σ1 : zS) : zS := fun k => if o ≤ k ∧ k < o + n then σ1 (k - o) else σ k
def zHx {β : Type} (x : Option ((Int32 ⊕ Nat) × zS)) (g : Nat → zS → Option β) (f : Int32 → zS → Option β) : Option β := match x with
  | some (.inl v, s) => f v s
  | some (.inr k, s) => g k s
  | none => none
theorem zHx_of {β : Type} {x : Option ((Int32 ⊕ Nat) × zS)} {g : Nat → zS → Option β} {f : Int32 → zS → Option β} {r : β} (h : zHx x g f = some r) : (∃ v s, x = some (.inl v, s) ∧ f v s = some r) ∨ (∃ k s, x = some (.inr k, s) ∧ g k s = some r) := by
  unfold zHx at h
  split at h
  · exact Or.inl ⟨_, _, rfl, h⟩
  · exact Or.inr ⟨_, _, rfl, h⟩
  · cases h
