section PE1
/-! the twins, written by program (gen_eval.py) out of the models; each answers as its model does -/
def e_X0_now (n : Nat) (s : Nat) : Option (Nat × Nat) :=
  eRt (eGet s 13 3) s
theorem s_X0_now (n : Nat) (s : Nat) : eSim nI (m_X0_now n  (cS s)) (e_X0_now n  s) := by
  unfold m_X0_now e_X0_now
  exact sRt (hGet rfl (by decide)) rfl
def e_X0_size (n : Nat) (s : Nat) : Option (Nat × Nat) :=
  eRt (eGet s 13 2) s
theorem s_X0_size (n : Nat) (s : Nat) : eSim nI (m_X0_size n  (cS s)) (e_X0_size n  s) := by
  unfold m_X0_size e_X0_size
  exact sRt (hGet rfl (by decide)) rfl
def e_X7_at (n : Nat) (k N : Nat) (v1 : Nat) (s : Nat) : Option (Nat × Nat) :=
  cond (eLt v1 0) (eRt 0 s) (cond (eLe N v1) (eRt 0 s) (eRd s k v1 N fun x3 => eRt x3 s))
theorem s_X7_at (n : Nat) (k N : Nat) (hN : N ≤ 16) (v1 : Nat) (s : Nat) : eSim nI (m_X7_at n k N (nI v1) (cS s)) (e_X7_at n k N v1 s) := by
  unfold m_X7_at e_X7_at
  exact sIf (hLt rfl rfl) (sRt rfl rfl) (sIf (hLe rfl rfl) (sRt rfl rfl) (sRd hN rfl rfl (fun x3 => sRt rfl rfl)))
def e_X0_leftAt (n : Nat) (v1 : Nat) (s : Nat) : Option (Nat × Nat) :=
  eBd (e_X7_at n 14 8 v1 s) fun x1 s2 => eRt x1 s2
theorem s_X0_leftAt (n : Nat) (v1 : Nat) (s : Nat) : eSim nI (m_X0_leftAt n (nI v1) (cS s)) (e_X0_leftAt n v1 s) := by
  unfold m_X0_leftAt e_X0_leftAt
  exact sBd (s_X7_at n 14 8 (by decide) v1 s) (fun x1 s2 => sRt rfl rfl)
def e_X0_total_j4 (n : Nat) : Nat → Nat → Nat → Nat → Option (Nat × Nat)
  | 0, _, _, _ => none
  | f + 1, v1, v2, s =>
    cond (eLe (eGet s 13 2) v2) (eRt v1 s) (eBd (e_X0_leftAt n v2 s) fun x2 s3 => eLi (eAdd v1 x2) fun x4 => eLi (eAdd v2 1) fun x5 => e_X0_total_j4 n f x4 x5 s3)
theorem s_X0_total_j4 (n : Nat) : ∀ f v1 v2 s, eSim nI (m_X0_total_j4 n f (nI v1) (nI v2) (cS s)) (e_X0_total_j4 n f v1 v2 s) := by
  intro f
  induction f with
  | zero => intro v1 v2 s; exact sNo
  | succ f ih =>
    intro v1 v2 s
    rw [m_X0_total_j4, e_X0_total_j4]
    exact sIf (hLe (hGet rfl (by decide)) rfl) (sRt rfl rfl) (sBd (s_X0_leftAt n v2 s) (fun x2 s3 => sLi (hAdd rfl rfl) (fun x4 => sLi (hAdd rfl rfl) (fun x5 => (ih x4 x5 s3)))))
def e_X0_total (n : Nat) (s : Nat) : Option (Nat × Nat) :=
  e_X0_total_j4 n n 0 0 s
theorem s_X0_total (n : Nat) (s : Nat) : eSim nI (m_X0_total n  (cS s)) (e_X0_total n  s) := by
  unfold m_X0_total e_X0_total
  exact (s_X0_total_j4 n n 0 0 s)
def e_X7_put (n : Nat) (k N : Nat) (v1 : Nat) (v2 : Nat) (s : Nat) : Option (Nat × Nat) :=
  cond (eLt v1 0) (eRt 0 s) (cond (eLe N v1) (eRt 0 s) (eWr s k v1 N v2 fun s3 => eRt 0 s3))
theorem s_X7_put (n : Nat) (k N : Nat) (hN : N ≤ 16) (v1 : Nat) (v2 : Nat) (s : Nat) : eSim nI (m_X7_put n k N (nI v1) (nI v2) (cS s)) (e_X7_put n k N v1 v2 s) := by
  unfold m_X7_put e_X7_put
  exact sIf (hLt rfl rfl) (sRt rfl rfl) (sIf (hLe rfl rfl) (sRt rfl rfl) (sWr hN rfl rfl rfl (fun s3 => sRt rfl rfl)))
def e_X0_move (n : Nat) (v1 : Nat) (v2 : Nat) (s : Nat) : Option (Nat × Nat) :=
  eBd (e_X7_at n 14 8 v1 s) fun x1 s2 => eBd (e_X7_put n 14 8 v2 x1 s2) fun x3 s4 => eBd (e_X7_at n 15 8 v1 s4) fun x5 s6 => eBd (e_X7_put n 15 8 v2 x5 s6) fun x7 s8 => eRt 0 s8
theorem s_X0_move (n : Nat) (v1 : Nat) (v2 : Nat) (s : Nat) : eSim nI (m_X0_move n (nI v1) (nI v2) (cS s)) (e_X0_move n v1 v2 s) := by
  unfold m_X0_move e_X0_move
  exact sBd (s_X7_at n 14 8 (by decide) v1 s) (fun x1 s2 => sBd (s_X7_put n 14 8 (by decide) v2 x1 s2) (fun x3 s4 => sBd (s_X7_at n 15 8 (by decide) v1 s4) (fun x5 s6 => sBd (s_X7_put n 15 8 (by decide) v2 x5 s6) (fun x7 s8 => sRt rfl rfl))))
def e_X0_add_j37 (n : Nat) (v1 : Nat) (v2 : Nat) (v3 : Nat) (s : Nat) : Option (Nat × Nat) :=
  eBd (e_X7_put n 14 8 v3 v1 s) fun x1 s2 => eBd (e_X7_put n 15 8 v3 v2 s2) fun x3 s4 => eLi (eSet s4 13 2 (eAdd (eGet s4 13 2) 1)) fun s5 => eRt 0 s5
theorem s_X0_add_j37 (n : Nat) (v1 : Nat) (v2 : Nat) (v3 : Nat) (s : Nat) : eSim nI (m_X0_add_j37 n (nI v1) (nI v2) (nI v3) (cS s)) (e_X0_add_j37 n v1 v2 v3 s) := by
  unfold m_X0_add_j37 e_X0_add_j37
  exact sBd (s_X7_put n 14 8 (by decide) v3 v1 s) (fun x1 s2 => sBd (s_X7_put n 15 8 (by decide) v3 v2 s2) (fun x3 s4 => sLs (hSet rfl (by decide) (hAdd (hGet rfl (by decide)) rfl)) (fun s5 => sRt rfl rfl)))
def e_X0_add_j5 (n : Nat) : Nat → Nat → Nat → Nat → Nat → Option (Nat × Nat)
  | 0, _, _, _, _ => none
  | f + 1, v1, v2, v3, s =>
    cond (eLe v3 0) (e_X0_add_j37 n v1 v2 v3 s) (eBd (e_X7_at n 15 8 (eSub v3 1) s) fun x7 s8 => cond (eLe x7 v2) (e_X0_add_j37 n v1 v2 v3 s8) (eBd (e_X0_move n (eSub v3 1) v3 s8) fun x10 s11 => eLi (eAdd v3 4294967295) fun x12 => e_X0_add_j5 n f v1 v2 x12 s11))
theorem s_X0_add_j5 (n : Nat) : ∀ f v1 v2 v3 s, eSim nI (m_X0_add_j5 n f (nI v1) (nI v2) (nI v3) (cS s)) (e_X0_add_j5 n f v1 v2 v3 s) := by
  intro f
  induction f with
  | zero => intro v1 v2 v3 s; exact sNo
  | succ f ih =>
    intro v1 v2 v3 s
    rw [m_X0_add_j5, e_X0_add_j5]
    exact sIf (hLe rfl rfl) ((s_X0_add_j37 n v1 v2 v3 s)) (sBd (by rw [show (nI v3) - ((1 : Int32)) = nI (eSub v3 1) from (hSub rfl rfl)]; exact s_X7_at n 15 8 (by decide) (eSub v3 1) s) (fun x7 s8 => sIf (hLe rfl rfl) ((s_X0_add_j37 n v1 v2 v3 s8)) (sBd (by rw [show (nI v3) - ((1 : Int32)) = nI (eSub v3 1) from (hSub rfl rfl)]; exact s_X0_move n (eSub v3 1) v3 s8) (fun x10 s11 => sLi (hAdd rfl (by decide)) (fun x12 => (ih v1 v2 x12 s11))))))
def e_X0_add (n : Nat) (v1 : Nat) (v2 : Nat) (s : Nat) : Option (Nat × Nat) :=
  eLi (eGet s 13 2) fun x13 => e_X0_add_j5 n n v1 v2 x13 s
theorem s_X0_add (n : Nat) (v1 : Nat) (v2 : Nat) (s : Nat) : eSim nI (m_X0_add n (nI v1) (nI v2) (cS s)) (e_X0_add n v1 v2 s) := by
  unfold m_X0_add e_X0_add
  exact sLi (hGet rfl (by decide)) (fun x13 => (s_X0_add_j5 n n v1 v2 x13 s))
def e_X0_take_j4 (n : Nat) : Nat → Nat → Nat → Nat → Nat → Option (Nat × Nat)
  | 0, _, _, _, _ => none
  | f + 1, v1, v2, v3, s =>
    cond (eLe (eGet s 13 2) v3) (eRt (eSub v1 v2) s) (eBd (e_X0_leftAt n v3 s) fun x2 s3 => eLi (cond (eLt x2 v2) x2 v2) fun x4 => eBd (e_X0_leftAt n v3 s3) fun x5 s6 => eBd (e_X7_put n 14 8 v3 (eSub x5 x4) s6) fun x7 s8 => eLi (eSub v2 x4) fun x9 => eLi (eAdd v3 1) fun x10 => e_X0_take_j4 n f v1 x9 x10 s8)
theorem s_X0_take_j4 (n : Nat) : ∀ f v1 v2 v3 s, eSim nI (m_X0_take_j4 n f (nI v1) (nI v2) (nI v3) (cS s)) (e_X0_take_j4 n f v1 v2 v3 s) := by
  intro f
  induction f with
  | zero => intro v1 v2 v3 s; exact sNo
  | succ f ih =>
    intro v1 v2 v3 s
    rw [m_X0_take_j4, e_X0_take_j4]
    exact sIf (hLe (hGet rfl (by decide)) rfl) (sRt (hSub rfl rfl) rfl) (sBd (s_X0_leftAt n v3 s) (fun x2 s3 => sLi (hIte (hLt rfl rfl) rfl rfl) (fun x4 => sBd (s_X0_leftAt n v3 s3) (fun x5 s6 => sBd (by rw [show (nI x5) - (nI x4) = nI (eSub x5 x4) from (hSub rfl rfl)]; exact s_X7_put n 14 8 (by decide) v3 (eSub x5 x4) s6) (fun x7 s8 => sLi (hSub rfl rfl) (fun x9 => sLi (hAdd rfl rfl) (fun x10 => (ih v1 x9 x10 s8))))))))
def e_X0_take (n : Nat) (v1 : Nat) (s : Nat) : Option (Nat × Nat) :=
  e_X0_take_j4 n n v1 v1 0 s
theorem s_X0_take (n : Nat) (v1 : Nat) (s : Nat) : eSim nI (m_X0_take n (nI v1) (cS s)) (e_X0_take n v1 s) := by
  unfold m_X0_take e_X0_take
  exact (s_X0_take_j4 n n v1 v1 0 s)
def e_X0_endYear_j4 (n : Nat) : Nat → Nat → Nat → Nat → Option (Nat × Nat)
  | 0, _, _, _ => none
  | f + 1, v1, v2, s =>
    cond (eLe (eGet s 13 2) v2) (eLi (eSet s 13 2 v1) fun s2 => eLi (eSet s2 13 3 (eAdd (eGet s2 13 3) 1)) fun s3 => eRt 0 s3) (eBd (e_X0_leftAt n v2 s) fun x4 s5 => cond (eLe x4 0) (eLi (eAdd v2 1) fun x7 => e_X0_endYear_j4 n f v1 x7 s5) (eBd (e_X7_at n 15 8 v2 s5) fun x8 s9 => cond (eLe x8 (eGet s9 13 3)) (eLi (eAdd v2 1) fun x11 => e_X0_endYear_j4 n f v1 x11 s9) (eBd (e_X0_move n v2 v1 s9) fun x12 s13 => eLi (eAdd v1 1) fun x14 => eLi (eAdd v2 1) fun x15 => e_X0_endYear_j4 n f x14 x15 s13)))
theorem s_X0_endYear_j4 (n : Nat) : ∀ f v1 v2 s, eSim nI (m_X0_endYear_j4 n f (nI v1) (nI v2) (cS s)) (e_X0_endYear_j4 n f v1 v2 s) := by
  intro f
  induction f with
  | zero => intro v1 v2 s; exact sNo
  | succ f ih =>
    intro v1 v2 s
    rw [m_X0_endYear_j4, e_X0_endYear_j4]
    exact sIf (hLe (hGet rfl (by decide)) rfl) (sLs (hSet rfl (by decide) rfl) (fun s2 => sLs (hSet rfl (by decide) (hAdd (hGet rfl (by decide)) rfl)) (fun s3 => sRt rfl rfl))) (sBd (s_X0_leftAt n v2 s) (fun x4 s5 => sIf (hLe rfl rfl) (sLi (hAdd rfl rfl) (fun x7 => (ih v1 x7 s5))) (sBd (s_X7_at n 15 8 (by decide) v2 s5) (fun x8 s9 => sIf (hLe rfl (hGet rfl (by decide))) (sLi (hAdd rfl rfl) (fun x11 => (ih v1 x11 s9))) (sBd (s_X0_move n v2 v1 s9) (fun x12 s13 => sLi (hAdd rfl rfl) (fun x14 => sLi (hAdd rfl rfl) (fun x15 => (ih x14 x15 s13)))))))))
def e_X0_endYear (n : Nat) (s : Nat) : Option (Nat × Nat) :=
  e_X0_endYear_j4 n n 0 0 s
theorem s_X0_endYear (n : Nat) (s : Nat) : eSim nI (m_X0_endYear n  (cS s)) (e_X0_endYear n  s) := by
  unfold m_X0_endYear e_X0_endYear
  exact (s_X0_endYear_j4 n n 0 0 s)
def e_X1_size (n : Nat) (s : Nat) : Option (Nat × Nat) :=
  eRt (eGet s 10 2) s
theorem s_X1_size (n : Nat) (s : Nat) : eSim nI (m_X1_size n  (cS s)) (e_X1_size n  s) := by
  unfold m_X1_size e_X1_size
  exact sRt (hGet rfl (by decide)) rfl
def e_X1_clear (n : Nat) (s : Nat) : Option (Nat × Nat) :=
  eLi (eSet s 10 2 0) fun s1 => eRt 0 s1
theorem s_X1_clear (n : Nat) (s : Nat) : eSim nI (m_X1_clear n  (cS s)) (e_X1_clear n  s) := by
  unfold m_X1_clear e_X1_clear
  exact sLs (hSet rfl (by decide) rfl) (fun s1 => sRt rfl rfl)
def e_X1_placeFor_j2 (n : Nat) : Nat → Nat → Nat → Nat → Option (Nat × Nat)
  | 0, _, _, _ => none
  | f + 1, v1, v2, s =>
    cond (eLe (eGet s 10 2) v2) (eRt v2 s) (eBd (e_X7_at n 11 5 v2 s) fun x2 s3 => cond (eLe v1 x2) (eRt v2 s3) (eLi (eAdd v2 1) fun x5 => e_X1_placeFor_j2 n f v1 x5 s3))
theorem s_X1_placeFor_j2 (n : Nat) : ∀ f v1 v2 s, eSim nI (m_X1_placeFor_j2 n f (nI v1) (nI v2) (cS s)) (e_X1_placeFor_j2 n f v1 v2 s) := by
  intro f
  induction f with
  | zero => intro v1 v2 s; exact sNo
  | succ f ih =>
    intro v1 v2 s
    rw [m_X1_placeFor_j2, e_X1_placeFor_j2]
    exact sIf (hLe (hGet rfl (by decide)) rfl) (sRt rfl rfl) (sBd (s_X7_at n 11 5 (by decide) v2 s) (fun x2 s3 => sIf (hLe rfl rfl) (sRt rfl rfl) (sLi (hAdd rfl rfl) (fun x5 => (ih v1 x5 s3)))))
def e_X1_placeFor (n : Nat) (v1 : Nat) (s : Nat) : Option (Nat × Nat) :=
  e_X1_placeFor_j2 n n v1 0 s
theorem s_X1_placeFor (n : Nat) (v1 : Nat) (s : Nat) : eSim nI (m_X1_placeFor n (nI v1) (cS s)) (e_X1_placeFor n v1 s) := by
  unfold m_X1_placeFor e_X1_placeFor
  exact (s_X1_placeFor_j2 n n v1 0 s)
def e_X1_isAt (n : Nat) (v1 : Nat) (v2 : Nat) (s : Nat) : Option (Nat × Nat) :=
  cond (eLe (eGet s 10 2) v1) (eRt 0 s) (eBd (e_X7_at n 11 5 v1 s) fun x2 s3 => cond (eEq x2 v2) (eRt 1 s3) (eRt 0 s3))
theorem s_X1_isAt (n : Nat) (v1 : Nat) (v2 : Nat) (s : Nat) : eSim nI (m_X1_isAt n (nI v1) (nI v2) (cS s)) (e_X1_isAt n v1 v2 s) := by
  unfold m_X1_isAt e_X1_isAt
  exact sIf (hLe (hGet rfl (by decide)) rfl) (sRt rfl rfl) (sBd (s_X7_at n 11 5 (by decide) v1 s) (fun x2 s3 => sIf (hEq rfl rfl) (sRt rfl rfl) (sRt rfl rfl)))
def e_X1_hasRoomFor (n : Nat) (v1 : Nat) (s : Nat) : Option (Nat × Nat) :=
  cond (eLt (eGet s 10 2) 5) (eRt 1 s) (eBd (e_X1_placeFor n v1 s) fun x2 s3 => eBd (e_X1_isAt n x2 v1 s3) fun x4 s5 => cond (eEq x4 0) (eRt 0 s5) (eRt 1 s5))
theorem s_X1_hasRoomFor (n : Nat) (v1 : Nat) (s : Nat) : eSim nI (m_X1_hasRoomFor n (nI v1) (cS s)) (e_X1_hasRoomFor n v1 s) := by
  unfold m_X1_hasRoomFor e_X1_hasRoomFor
  exact sIf (hLt (hGet rfl (by decide)) rfl) (sRt rfl rfl) (sBd (s_X1_placeFor n v1 s) (fun x2 s3 => sBd (s_X1_isAt n x2 v1 s3) (fun x4 s5 => sIf (hEq rfl rfl) (sRt rfl rfl) (sRt rfl rfl))))
def e_X1_set_j23 (n : Nat) : Nat → Nat → Nat → Nat → Nat → Nat → Option (Nat × Nat)
  | 0, _, _, _, _, _ => none
  | f + 1, v1, v2, v3, v4, s =>
    cond (eLt v4 v3) (eBd (e_X7_put n 11 5 v3 v1 s) fun x2 s3 => eLi (eSet s3 10 2 (eAdd (eGet s3 10 2) 1)) fun s4 => eBd (e_X7_put n 12 5 v3 v2 s4) fun x5 s6 => eRt 0 s6) (eBd (e_X7_at n 11 5 v4 s) fun x7 s8 => eBd (e_X7_put n 11 5 (eAdd v4 1) x7 s8) fun x9 s10 => eBd (e_X7_at n 12 5 v4 s10) fun x11 s12 => eBd (e_X7_put n 12 5 (eAdd v4 1) x11 s12) fun x13 s14 => eLi (eAdd v4 4294967295) fun x15 => e_X1_set_j23 n f v1 v2 v3 x15 s14)
theorem s_X1_set_j23 (n : Nat) : ∀ f v1 v2 v3 v4 s, eSim nI (m_X1_set_j23 n f (nI v1) (nI v2) (nI v3) (nI v4) (cS s)) (e_X1_set_j23 n f v1 v2 v3 v4 s) := by
  intro f
  induction f with
  | zero => intro v1 v2 v3 v4 s; exact sNo
  | succ f ih =>
    intro v1 v2 v3 v4 s
    rw [m_X1_set_j23, e_X1_set_j23]
    exact sIf (hLt rfl rfl) (sBd (s_X7_put n 11 5 (by decide) v3 v1 s) (fun x2 s3 => sLs (hSet rfl (by decide) (hAdd (hGet rfl (by decide)) rfl)) (fun s4 => sBd (s_X7_put n 12 5 (by decide) v3 v2 s4) (fun x5 s6 => sRt rfl rfl)))) (sBd (s_X7_at n 11 5 (by decide) v4 s) (fun x7 s8 => sBd (by rw [show (nI v4) + ((1 : Int32)) = nI (eAdd v4 1) from (hAdd rfl rfl)]; exact s_X7_put n 11 5 (by decide) (eAdd v4 1) x7 s8) (fun x9 s10 => sBd (s_X7_at n 12 5 (by decide) v4 s10) (fun x11 s12 => sBd (by rw [show (nI v4) + ((1 : Int32)) = nI (eAdd v4 1) from (hAdd rfl rfl)]; exact s_X7_put n 12 5 (by decide) (eAdd v4 1) x11 s12) (fun x13 s14 => sLi (hAdd rfl (by decide)) (fun x15 => (ih v1 v2 v3 x15 s14)))))))
def e_X1_set (n : Nat) (v1 : Nat) (v2 : Nat) (s : Nat) : Option (Nat × Nat) :=
  eBd (e_X1_placeFor n v1 s) fun x16 s17 => eBd (e_X1_isAt n x16 v1 s17) fun x18 s19 => cond (eEq x18 0) (eLi (eSub (eGet s19 10 2) 1) fun x23 => e_X1_set_j23 n n v1 v2 x16 x23 s19) (eBd (e_X7_put n 12 5 x16 v2 s19) fun x21 s22 => eRt 0 s22)
theorem s_X1_set (n : Nat) (v1 : Nat) (v2 : Nat) (s : Nat) : eSim nI (m_X1_set n (nI v1) (nI v2) (cS s)) (e_X1_set n v1 v2 s) := by
  unfold m_X1_set e_X1_set
  exact sBd (s_X1_placeFor n v1 s) (fun x16 s17 => sBd (s_X1_isAt n x16 v1 s17) (fun x18 s19 => sIf (hEq rfl rfl) (sLi (hSub (hGet rfl (by decide)) rfl) (fun x23 => (s_X1_set_j23 n n v1 v2 x16 x23 s19))) (sBd (s_X7_put n 12 5 (by decide) x16 v2 s19) (fun x21 s22 => sRt rfl rfl))))
def e_X1_tax_j40 (rec4' : Nat → Nat → Nat → Nat → Option (Nat × Nat)) (n : Nat) (v1 : Nat) (v2 : Nat) (v3 : Nat) (t0 : Nat) (s : Nat) : Option (Nat × Nat) :=
  eBd (e_X7_at n 11 5 v3 s) fun x1 s2 => eLi (cond (eLt (eSub t0 x1) 0) 0 (eSub t0 x1)) fun x3 => eBd (e_X7_at n 12 5 v3 s2) fun x4 s5 => eBd (e_X7_thousandths n x3 x4 s5) fun x6 s7 => eLi (eAdd v2 x6) fun x8 => eLi (eAdd v3 1) fun x9 => rec4' v1 x8 x9 s7
theorem s_X1_tax_j40 {rec4 : Int32 → Int32 → Int32 → zS → Option (Int32 × zS)} {rec4' : Nat → Nat → Nat → Nat → Option (Nat × Nat)} (hrec4 : ∀ a0 a1 a2 S, eSim nI (rec4 (nI a0) (nI a1) (nI a2) (cS S)) (rec4' a0 a1 a2 S)) (n : Nat) (v1 : Nat) (v2 : Nat) (v3 : Nat) (t0 : Nat) (s : Nat) : eSim nI (m_X1_tax_j40 rec4 n (nI v1) (nI v2) (nI v3) (nI t0) (cS s)) (e_X1_tax_j40 rec4' n v1 v2 v3 t0 s) := by
  unfold m_X1_tax_j40 e_X1_tax_j40
  exact sBd (s_X7_at n 11 5 (by decide) v3 s) (fun x1 s2 => sLi (hIte (hLt (hSub rfl rfl) rfl) rfl (hSub rfl rfl)) (fun x3 => sBd (s_X7_at n 12 5 (by decide) v3 s2) (fun x4 s5 => sBd (s_X7_thousandths n x3 x4 s5) (fun x6 s7 => sLi (hAdd rfl rfl) (fun x8 => sLi (hAdd rfl rfl) (fun x9 => (hrec4 v1 x8 x9 s7)))))))
def e_X1_tax_j4 (n : Nat) : Nat → Nat → Nat → Nat → Nat → Option (Nat × Nat)
  | 0, _, _, _, _ => none
  | f + 1, v1, v2, v3, s =>
    cond (eLe (eGet s 10 2) v3) (eRt v2 s) (cond (eLe (eGet s 10 2) (eAdd v3 1)) (e_X1_tax_j40 (e_X1_tax_j4 n f) n v1 v2 v3 v1 s) (eBd (e_X7_at n 11 5 (eAdd v3 1) s) fun x12 s13 => e_X1_tax_j40 (e_X1_tax_j4 n f) n v1 v2 v3 (cond (eLt x12 v1) x12 v1) s13))
theorem s_X1_tax_j4 (n : Nat) : ∀ f v1 v2 v3 s, eSim nI (m_X1_tax_j4 n f (nI v1) (nI v2) (nI v3) (cS s)) (e_X1_tax_j4 n f v1 v2 v3 s) := by
  intro f
  induction f with
  | zero => intro v1 v2 v3 s; exact sNo
  | succ f ih =>
    intro v1 v2 v3 s
    rw [m_X1_tax_j4, e_X1_tax_j4]
    exact sIf (hLe (hGet rfl (by decide)) rfl) (sRt rfl rfl) (sIf (hLe (hGet rfl (by decide)) (hAdd rfl rfl)) ((s_X1_tax_j40 ih n v1 v2 v3 v1 s)) (sBd (by rw [show (nI v3) + ((1 : Int32)) = nI (eAdd v3 1) from (hAdd rfl rfl)]; exact s_X7_at n 11 5 (by decide) (eAdd v3 1) s) (fun x12 s13 => (by rw [show (if (nI x12) < (nI v1) then (nI x12) else (nI v1)) = nI (cond (eLt x12 v1) x12 v1) from (hIte (hLt rfl rfl) rfl rfl)]; exact s_X1_tax_j40 ih n v1 v2 v3 (cond (eLt x12 v1) x12 v1) s13))))
def e_X1_tax (n : Nat) (v1 : Nat) (s : Nat) : Option (Nat × Nat) :=
  e_X1_tax_j4 n n v1 0 0 s
theorem s_X1_tax (n : Nat) (v1 : Nat) (s : Nat) : eSim nI (m_X1_tax n (nI v1) (cS s)) (e_X1_tax n v1 s) := by
  unfold m_X1_tax e_X1_tax
  exact (s_X1_tax_j4 n n v1 0 0 s)
def e_X2_size (n : Nat) (s : Nat) : Option (Nat × Nat) :=
  eRt (eGet s 16 4) s
theorem s_X2_size (n : Nat) (s : Nat) : eSim nI (m_X2_size n  (cS s)) (e_X2_size n  s) := by
  unfold m_X2_size e_X2_size
  exact sRt (hGet rfl (by decide)) rfl
def e_X2_add (n : Nat) (v1 : Nat) (v2 : Nat) (s : Nat) : Option (Nat × Nat) :=
  eBd (e_X7_put n 17 5 (eGet s 16 4) v1 s) fun x1 s2 => eBd (e_X7_put n 18 5 (eGet s2 16 4) v2 s2) fun x3 s4 => eLi (eSet s4 16 4 (eAdd (eGet s4 16 4) 1)) fun s5 => eRt 0 s5
theorem s_X2_add (n : Nat) (v1 : Nat) (v2 : Nat) (s : Nat) : eSim nI (m_X2_add n (nI v1) (nI v2) (cS s)) (e_X2_add n v1 v2 s) := by
  unfold m_X2_add e_X2_add
  exact sBd (by rw [show (cS s) 16 4 = nI (eGet s 16 4) from (hGet rfl (by decide))]; exact s_X7_put n 17 5 (by decide) (eGet s 16 4) v1 s) (fun x1 s2 => sBd (by rw [show (cS s2) 16 4 = nI (eGet s2 16 4) from (hGet rfl (by decide))]; exact s_X7_put n 18 5 (by decide) (eGet s2 16 4) v2 s2) (fun x3 s4 => sLs (hSet rfl (by decide) (hAdd (hGet rfl (by decide)) rfl)) (fun s5 => sRt rfl rfl)))
def e_X2_dropLast (n : Nat) (s : Nat) : Option (Nat × Nat) :=
  eLi (eSet s 16 4 (eSub (eGet s 16 4) 1)) fun s1 => eRt 0 s1
theorem s_X2_dropLast (n : Nat) (s : Nat) : eSim nI (m_X2_dropLast n  (cS s)) (e_X2_dropLast n  s) := by
  unfold m_X2_dropLast e_X2_dropLast
  exact sLs (hSet rfl (by decide) (hSub (hGet rfl (by decide)) rfl)) (fun s1 => sRt rfl rfl)
def e_X2_total_j4 (n : Nat) : Nat → Nat → Nat → Nat → Option (Nat × Nat)
  | 0, _, _, _ => none
  | f + 1, v1, v2, s =>
    cond (eLe (eGet s 16 4) v2) (eRt v1 s) (eBd (e_X7_at n 17 5 v2 s) fun x2 s3 => eLi (eAdd v1 x2) fun x4 => eLi (eAdd v2 1) fun x5 => e_X2_total_j4 n f x4 x5 s3)
theorem s_X2_total_j4 (n : Nat) : ∀ f v1 v2 s, eSim nI (m_X2_total_j4 n f (nI v1) (nI v2) (cS s)) (e_X2_total_j4 n f v1 v2 s) := by
  intro f
  induction f with
  | zero => intro v1 v2 s; exact sNo
  | succ f ih =>
    intro v1 v2 s
    rw [m_X2_total_j4, e_X2_total_j4]
    exact sIf (hLe (hGet rfl (by decide)) rfl) (sRt rfl rfl) (sBd (s_X7_at n 17 5 (by decide) v2 s) (fun x2 s3 => sLi (hAdd rfl rfl) (fun x4 => sLi (hAdd rfl rfl) (fun x5 => (ih x4 x5 s3)))))
def e_X2_total (n : Nat) (s : Nat) : Option (Nat × Nat) :=
  e_X2_total_j4 n n 0 0 s
theorem s_X2_total (n : Nat) (s : Nat) : eSim nI (m_X2_total n  (cS s)) (e_X2_total n  s) := by
  unfold m_X2_total e_X2_total
  exact (s_X2_total_j4 n n 0 0 s)
def e_X2_bestAt (n : Nat) (v1 : Nat) (s : Nat) : Option (Nat × Nat) :=
  eBd (e_X7_at n 20 5 v1 s) fun x1 s2 => eRt x1 s2
theorem s_X2_bestAt (n : Nat) (v1 : Nat) (s : Nat) : eSim nI (m_X2_bestAt n (nI v1) (cS s)) (e_X2_bestAt n v1 s) := by
  unfold m_X2_bestAt e_X2_bestAt
  exact sBd (s_X7_at n 20 5 (by decide) v1 s) (fun x1 s2 => sRt rfl rfl)
def e_X2_sumInOrder_j7 (n : Nat) : Nat → Nat → Nat → Nat → Nat → Option (Nat × Nat)
  | 0, _, _, _, _ => none
  | f + 1, v2, v3, v4, s =>
    cond (eLe (eGet s 16 4) v4) (eRt v3 s) (eBd (e_X7_at n 19 5 v4 s) fun x2 s3 => eBd (e_X7_at n 17 5 x2 s3) fun x4 s5 => eLi (cond (eLt x4 v2) x4 v2) fun x6 => eLi (eSub v2 x6) fun x7 => eBd (e_X7_at n 17 5 x2 s5) fun x8 s9 => eBd (e_X7_at n 18 5 x2 s9) fun x10 s11 => eBd (e_X7_thousandths n (eSub x8 x6) x10 s11) fun x12 s13 => eLi (eAdd v3 (eAdd x6 x12)) fun x14 => eLi (eAdd v4 1) fun x15 => e_X2_sumInOrder_j7 n f x7 x14 x15 s13)
theorem s_X2_sumInOrder_j7 (n : Nat) : ∀ f v2 v3 v4 s, eSim nI (m_X2_sumInOrder_j7 n f (nI v2) (nI v3) (nI v4) (cS s)) (e_X2_sumInOrder_j7 n f v2 v3 v4 s) := by
  intro f
  induction f with
  | zero => intro v2 v3 v4 s; exact sNo
  | succ f ih =>
    intro v2 v3 v4 s
    rw [m_X2_sumInOrder_j7, e_X2_sumInOrder_j7]
    exact sIf (hLe (hGet rfl (by decide)) rfl) (sRt rfl rfl) (sBd (s_X7_at n 19 5 (by decide) v4 s) (fun x2 s3 => sBd (s_X7_at n 17 5 (by decide) x2 s3) (fun x4 s5 => sLi (hIte (hLt rfl rfl) rfl rfl) (fun x6 => sLi (hSub rfl rfl) (fun x7 => sBd (s_X7_at n 17 5 (by decide) x2 s5) (fun x8 s9 => sBd (s_X7_at n 18 5 (by decide) x2 s9) (fun x10 s11 => sBd (by rw [show (nI x8) - (nI x6) = nI (eSub x8 x6) from (hSub rfl rfl)]; exact s_X7_thousandths n (eSub x8 x6) x10 s11) (fun x12 s13 => sLi (hAdd rfl (hAdd rfl rfl)) (fun x14 => sLi (hAdd rfl rfl) (fun x15 => (ih x7 x14 x15 s13)))))))))))
def e_X2_sumInOrder (n : Nat) (v1 : Nat) (s : Nat) : Option (Nat × Nat) :=
  e_X2_sumInOrder_j7 n n v1 0 0 s
theorem s_X2_sumInOrder (n : Nat) (v1 : Nat) (s : Nat) : eSim nI (m_X2_sumInOrder n (nI v1) (cS s)) (e_X2_sumInOrder n v1 s) := by
  unfold m_X2_sumInOrder e_X2_sumInOrder
  exact (s_X2_sumInOrder_j7 n n v1 0 0 s)
def e_X2_keepOrder_j2 (n : Nat) : Nat → Nat → Nat → Option (Nat × Nat)
  | 0, _, _ => none
  | f + 1, v1, s =>
    cond (eLe (eGet s 16 4) v1) (eRt 0 s) (eBd (e_X7_at n 19 5 v1 s) fun x2 s3 => eBd (e_X7_put n 20 5 v1 x2 s3) fun x4 s5 => eLi (eAdd v1 1) fun x6 => e_X2_keepOrder_j2 n f x6 s5)
theorem s_X2_keepOrder_j2 (n : Nat) : ∀ f v1 s, eSim nI (m_X2_keepOrder_j2 n f (nI v1) (cS s)) (e_X2_keepOrder_j2 n f v1 s) := by
  intro f
  induction f with
  | zero => intro v1 s; exact sNo
  | succ f ih =>
    intro v1 s
    rw [m_X2_keepOrder_j2, e_X2_keepOrder_j2]
    exact sIf (hLe (hGet rfl (by decide)) rfl) (sRt rfl rfl) (sBd (s_X7_at n 19 5 (by decide) v1 s) (fun x2 s3 => sBd (s_X7_put n 20 5 (by decide) v1 x2 s3) (fun x4 s5 => sLi (hAdd rfl rfl) (fun x6 => (ih x6 s5)))))
def e_X2_keepOrder (n : Nat) (s : Nat) : Option (Nat × Nat) :=
  e_X2_keepOrder_j2 n n 0 s
theorem s_X2_keepOrder (n : Nat) (s : Nat) : eSim nI (m_X2_keepOrder n  (cS s)) (e_X2_keepOrder n  s) := by
  unfold m_X2_keepOrder e_X2_keepOrder
  exact (s_X2_keepOrder_j2 n n 0 s)
def e_X2_swap (n : Nat) (v1 : Nat) (v2 : Nat) (s : Nat) : Option (Nat × Nat) :=
  eBd (e_X7_at n 19 5 v1 s) fun x1 s2 => eBd (e_X7_at n 19 5 v2 s2) fun x3 s4 => eBd (e_X7_put n 19 5 v1 x3 s4) fun x5 s6 => eBd (e_X7_put n 19 5 v2 x1 s6) fun x7 s8 => eRt 0 s8
theorem s_X2_swap (n : Nat) (v1 : Nat) (v2 : Nat) (s : Nat) : eSim nI (m_X2_swap n (nI v1) (nI v2) (cS s)) (e_X2_swap n v1 v2 s) := by
  unfold m_X2_swap e_X2_swap
  exact sBd (s_X7_at n 19 5 (by decide) v1 s) (fun x1 s2 => sBd (s_X7_at n 19 5 (by decide) v2 s2) (fun x3 s4 => sBd (s_X7_put n 19 5 (by decide) v1 x3 s4) (fun x5 s6 => sBd (s_X7_put n 19 5 (by decide) v2 x1 s6) (fun x7 s8 => sRt rfl rfl))))
def e_X2_toNextOrder_j99 (n : Nat) : Nat → Nat → Nat → Nat → Option (Nat × Nat)
  | 0, _, _, _ => none
  | f + 1, v3, v4, s =>
    cond (eLe v4 v3) (eRt 1 s) (eBd (e_X2_swap n v3 v4 s) fun x2 s3 => eLi (eAdd v3 1) fun x4 => eLi (eAdd v4 4294967295) fun x5 => e_X2_toNextOrder_j99 n f x4 x5 s3)
theorem s_X2_toNextOrder_j99 (n : Nat) : ∀ f v3 v4 s, eSim nI (m_X2_toNextOrder_j99 n f (nI v3) (nI v4) (cS s)) (e_X2_toNextOrder_j99 n f v3 v4 s) := by
  intro f
  induction f with
  | zero => intro v3 v4 s; exact sNo
  | succ f ih =>
    intro v3 v4 s
    rw [m_X2_toNextOrder_j99, e_X2_toNextOrder_j99]
    exact sIf (hLe rfl rfl) (sRt rfl rfl) (sBd (s_X2_swap n v3 v4 s) (fun x2 s3 => sLi (hAdd rfl rfl) (fun x4 => sLi (hAdd rfl (by decide)) (fun x5 => (ih x4 x5 s3)))))
def e_X2_toNextOrder_j81 (n : Nat) (v1 : Nat) (v2 : Nat) (s : Nat) : Option (Nat × Nat) :=
  eBd (e_X2_swap n v1 v2 s) fun x6 s7 => eLi (eAdd v1 1) fun x8 => eLi (eSub (eGet s7 16 4) 1) fun x9 => e_X2_toNextOrder_j99 n n x8 x9 s7
theorem s_X2_toNextOrder_j81 (n : Nat) (v1 : Nat) (v2 : Nat) (s : Nat) : eSim nI (m_X2_toNextOrder_j81 n (nI v1) (nI v2) (cS s)) (e_X2_toNextOrder_j81 n v1 v2 s) := by
  unfold m_X2_toNextOrder_j81 e_X2_toNextOrder_j81
  exact sBd (s_X2_swap n v1 v2 s) (fun x6 s7 => sLi (hAdd rfl rfl) (fun x8 => sLi (hSub (hGet rfl (by decide)) rfl) (fun x9 => (s_X2_toNextOrder_j99 n n x8 x9 s7))))
def e_X2_toNextOrder_j51 (n : Nat) : Nat → Nat → Nat → Nat → Option (Nat × Nat)
  | 0, _, _, _ => none
  | f + 1, v1, v2, s =>
    cond (eLe v2 v1) (e_X2_toNextOrder_j81 n v1 v2 s) (eBd (e_X7_at n 19 5 v2 s) fun x11 s12 => eBd (e_X7_at n 19 5 v1 s12) fun x13 s14 => cond (eLe x13 x11) (e_X2_toNextOrder_j81 n v1 v2 s14) (eLi (eAdd v2 4294967295) fun x16 => e_X2_toNextOrder_j51 n f v1 x16 s14))
theorem s_X2_toNextOrder_j51 (n : Nat) : ∀ f v1 v2 s, eSim nI (m_X2_toNextOrder_j51 n f (nI v1) (nI v2) (cS s)) (e_X2_toNextOrder_j51 n f v1 v2 s) := by
  intro f
  induction f with
  | zero => intro v1 v2 s; exact sNo
  | succ f ih =>
    intro v1 v2 s
    rw [m_X2_toNextOrder_j51, e_X2_toNextOrder_j51]
    exact sIf (hLe rfl rfl) ((s_X2_toNextOrder_j81 n v1 v2 s)) (sBd (s_X7_at n 19 5 (by decide) v2 s) (fun x11 s12 => sBd (s_X7_at n 19 5 (by decide) v1 s12) (fun x13 s14 => sIf (hLe rfl rfl) ((s_X2_toNextOrder_j81 n v1 v2 s14)) (sLi (hAdd rfl (by decide)) (fun x16 => (ih v1 x16 s14))))))
def e_X2_toNextOrder_j38 (n : Nat) (v1 : Nat) (s : Nat) : Option (Nat × Nat) :=
  cond (eLe 0 v1) (eLi (eSub (eGet s 16 4) 1) fun x18 => e_X2_toNextOrder_j51 n n v1 x18 s) (eRt 0 s)
theorem s_X2_toNextOrder_j38 (n : Nat) (v1 : Nat) (s : Nat) : eSim nI (m_X2_toNextOrder_j38 n (nI v1) (cS s)) (e_X2_toNextOrder_j38 n v1 s) := by
  unfold m_X2_toNextOrder_j38 e_X2_toNextOrder_j38
  exact sIf (hLe rfl rfl) (sLi (hSub (hGet rfl (by decide)) rfl) (fun x18 => (s_X2_toNextOrder_j51 n n v1 x18 s))) (sRt rfl rfl)
def e_X2_toNextOrder_j7 (n : Nat) : Nat → Nat → Nat → Option (Nat × Nat)
  | 0, _, _ => none
  | f + 1, v1, s =>
    cond (eLt v1 0) (e_X2_toNextOrder_j38 n v1 s) (eBd (e_X7_at n 19 5 v1 s) fun x20 s21 => eBd (e_X7_at n 19 5 (eAdd v1 1) s21) fun x22 s23 => cond (eLe x20 x22) (e_X2_toNextOrder_j38 n v1 s23) (eLi (eAdd v1 4294967295) fun x25 => e_X2_toNextOrder_j7 n f x25 s23))
theorem s_X2_toNextOrder_j7 (n : Nat) : ∀ f v1 s, eSim nI (m_X2_toNextOrder_j7 n f (nI v1) (cS s)) (e_X2_toNextOrder_j7 n f v1 s) := by
  intro f
  induction f with
  | zero => intro v1 s; exact sNo
  | succ f ih =>
    intro v1 s
    rw [m_X2_toNextOrder_j7, e_X2_toNextOrder_j7]
    exact sIf (hLt rfl rfl) ((s_X2_toNextOrder_j38 n v1 s)) (sBd (s_X7_at n 19 5 (by decide) v1 s) (fun x20 s21 => sBd (by rw [show (nI v1) + ((1 : Int32)) = nI (eAdd v1 1) from (hAdd rfl rfl)]; exact s_X7_at n 19 5 (by decide) (eAdd v1 1) s21) (fun x22 s23 => sIf (hLe rfl rfl) ((s_X2_toNextOrder_j38 n v1 s23)) (sLi (hAdd rfl (by decide)) (fun x25 => (ih x25 s23))))))
def e_X2_toNextOrder (n : Nat) (s : Nat) : Option (Nat × Nat) :=
  eLi (eSub (eGet s 16 4) 2) fun x26 => e_X2_toNextOrder_j7 n n x26 s
theorem s_X2_toNextOrder (n : Nat) (s : Nat) : eSim nI (m_X2_toNextOrder n  (cS s)) (e_X2_toNextOrder n  s) := by
  unfold m_X2_toNextOrder e_X2_toNextOrder
  exact sLi (hSub (hGet rfl (by decide)) rfl) (fun x26 => (s_X2_toNextOrder_j7 n n x26 s))
def e_X2_findBest_j29 (n : Nat) : Nat → Nat → Nat → Nat → Nat → Nat → Option (Nat × Nat)
  | 0, _, _, _, _, _ => none
  | f + 1, v1, v2, v3, v4, s =>
    cond (eLe 120 v4) (eRt v2 s) (cond (eEq v3 0) (eRt v2 s) (eBd (e_X2_sumInOrder n v1 s) fun x3 s4 => cond (eLe x3 v2) (eBd (e_X2_toNextOrder n s4) fun x6 s7 => eLi (eAdd v4 1) fun x8 => e_X2_findBest_j29 n f v1 v2 x6 x8 s7) (eBd (e_X2_keepOrder n s4) fun x9 s10 => eBd (e_X2_toNextOrder n s10) fun x11 s12 => eLi (eAdd v4 1) fun x13 => e_X2_findBest_j29 n f v1 x3 x11 x13 s12)))
theorem s_X2_findBest_j29 (n : Nat) : ∀ f v1 v2 v3 v4 s, eSim nI (m_X2_findBest_j29 n f (nI v1) (nI v2) (nI v3) (nI v4) (cS s)) (e_X2_findBest_j29 n f v1 v2 v3 v4 s) := by
  intro f
  induction f with
  | zero => intro v1 v2 v3 v4 s; exact sNo
  | succ f ih =>
    intro v1 v2 v3 v4 s
    rw [m_X2_findBest_j29, e_X2_findBest_j29]
    exact sIf (hLe rfl rfl) (sRt rfl rfl) (sIf (hEq rfl rfl) (sRt rfl rfl) (sBd (s_X2_sumInOrder n v1 s) (fun x3 s4 => sIf (hLe rfl rfl) (sBd (s_X2_toNextOrder n s4) (fun x6 s7 => sLi (hAdd rfl rfl) (fun x8 => (ih v1 v2 x6 x8 s7)))) (sBd (s_X2_keepOrder n s4) (fun x9 s10 => sBd (s_X2_toNextOrder n s10) (fun x11 s12 => sLi (hAdd rfl rfl) (fun x13 => (ih v1 x3 x11 x13 s12))))))))
def e_X2_findBest_j2 (n : Nat) : Nat → Nat → Nat → Nat → Option (Nat × Nat)
  | 0, _, _, _ => none
  | f + 1, v1, v2, s =>
    cond (eLe 5 v2) (e_X2_findBest_j29 n n v1 4294967295 1 0 s) (eBd (e_X7_put n 19 5 v2 v2 s) fun x15 s16 => eLi (eAdd v2 1) fun x17 => e_X2_findBest_j2 n f v1 x17 s16)
theorem s_X2_findBest_j2 (n : Nat) : ∀ f v1 v2 s, eSim nI (m_X2_findBest_j2 n f (nI v1) (nI v2) (cS s)) (e_X2_findBest_j2 n f v1 v2 s) := by
  intro f
  induction f with
  | zero => intro v1 v2 s; exact sNo
  | succ f ih =>
    intro v1 v2 s
    rw [m_X2_findBest_j2, e_X2_findBest_j2]
    exact sIf (hLe rfl rfl) ((by rw [show (-1 : Int32) = nI 4294967295 from by decide]; exact s_X2_findBest_j29 n n v1 4294967295 1 0 s)) (sBd (s_X7_put n 19 5 (by decide) v2 v2 s) (fun x15 s16 => sLi (hAdd rfl rfl) (fun x17 => (ih v1 x17 s16))))
def e_X2_findBest (n : Nat) (v1 : Nat) (s : Nat) : Option (Nat × Nat) :=
  e_X2_findBest_j2 n n v1 0 s
theorem s_X2_findBest (n : Nat) (v1 : Nat) (s : Nat) : eSim nI (m_X2_findBest n (nI v1) (cS s)) (e_X2_findBest n v1 s) := by
  unfold m_X2_findBest e_X2_findBest
  exact (s_X2_findBest_j2 n n v1 0 s)
def e_X7_has (n : Nat) (v0 : Nat) (v1 : Nat) (s : Nat) : Option (Nat × Nat) :=
  eBd (e_X7_bit n v1 s) fun x1 s2 => cond (eEq (Nat.land v0 x1) 0) (eRt 0 s2) (eRt 1 s2)
theorem s_X7_has (n : Nat) (v0 : Nat) (v1 : Nat) (s : Nat) : eSim nI (m_X7_has n (nI v0) (nI v1) (cS s)) (e_X7_has n v0 v1 s) := by
  unfold m_X7_has e_X7_has
  exact sBd (s_X7_bit n v1 s) (fun x1 s2 => sIf (hEq (hAnd rfl rfl) rfl) (sRt rfl rfl) (sRt rfl rfl))
def e_X3_add (n : Nat) (v1 : Nat) (s : Nat) : Option (Nat × Nat) :=
  eBd (e_X7_has n (eGet s 25 2) v1 s) fun x1 s2 => cond (eEq x1 0) (eBd (e_X7_put n 26 16 (eGet s2 25 1) v1 s2) fun x4 s5 => eLi (eSet s5 25 1 (eAdd (eGet s5 25 1) 1)) fun s6 => eBd (e_X7_bit n v1 s6) fun x7 s8 => eLi (eSet s8 25 2 (Nat.lor (eGet s6 25 2) x7)) fun s9 => eRt 0 s9) (eRt 0 s2)
theorem s_X3_add (n : Nat) (v1 : Nat) (s : Nat) : eSim nI (m_X3_add n (nI v1) (cS s)) (e_X3_add n v1 s) := by
  unfold m_X3_add e_X3_add
  exact sBd (by rw [show (cS s) 25 2 = nI (eGet s 25 2) from (hGet rfl (by decide))]; exact s_X7_has n (eGet s 25 2) v1 s) (fun x1 s2 => sIf (hEq rfl rfl) (sBd (by rw [show (cS s2) 25 1 = nI (eGet s2 25 1) from (hGet rfl (by decide))]; exact s_X7_put n 26 16 (by decide) (eGet s2 25 1) v1 s2) (fun x4 s5 => sLs (hSet rfl (by decide) (hAdd (hGet rfl (by decide)) rfl)) (fun s6 => sBd (s_X7_bit n v1 s6) (fun x7 s8 => sLs (hSet rfl (by decide) (hOr (hGet rfl (by decide)) rfl)) (fun s9 => sRt rfl rfl))))) (sRt rfl rfl))
def e_X5_first (n : Nat) (v1 : Nat) (s : Nat) : Option (Nat × Nat) :=
  eBd (e_X7_at n 3 16 v1 s) fun x1 s2 => eRt x1 s2
theorem s_X5_first (n : Nat) (v1 : Nat) (s : Nat) : eSim nI (m_X5_first n (nI v1) (cS s)) (e_X5_first n v1 s) := by
  unfold m_X5_first e_X5_first
  exact sBd (s_X7_at n 3 16 (by decide) v1 s) (fun x1 s2 => sRt rfl rfl)
def e_X5_kind (n : Nat) (v1 : Nat) (s : Nat) : Option (Nat × Nat) :=
  eBd (e_X7_at n 2 16 v1 s) fun x1 s2 => eRt x1 s2
theorem s_X5_kind (n : Nat) (v1 : Nat) (s : Nat) : eSim nI (m_X5_kind n (nI v1) (cS s)) (e_X5_kind n v1 s) := by
  unfold m_X5_kind e_X5_kind
  exact sBd (s_X7_at n 2 16 (by decide) v1 s) (fun x1 s2 => sRt rfl rfl)
def e_X6_of (n : Nat) (v1 : Nat) (s : Nat) : Option (Nat × Nat) :=
  eBd (e_X7_at n 22 16 v1 s) fun x1 s2 => eRt x1 s2
theorem s_X6_of (n : Nat) (v1 : Nat) (s : Nat) : eSim nI (m_X6_of n (nI v1) (cS s)) (e_X6_of n v1 s) := by
  unfold m_X6_of e_X6_of
  exact sBd (s_X7_at n 22 16 (by decide) v1 s) (fun x1 s2 => sRt rfl rfl)
def e_X5_second (n : Nat) (v1 : Nat) (s : Nat) : Option (Nat × Nat) :=
  eBd (e_X7_at n 4 16 v1 s) fun x1 s2 => eRt x1 s2
theorem s_X5_second (n : Nat) (v1 : Nat) (s : Nat) : eSim nI (m_X5_second n (nI v1) (cS s)) (e_X5_second n v1 s) := by
  unfold m_X5_second e_X5_second
  exact sBd (s_X7_at n 4 16 (by decide) v1 s) (fun x1 s2 => sRt rfl rfl)
def e_X3_addReasons (n : Nat) (v1 : Nat) (s : Nat) : Option (Nat × Nat) :=
  eBd (e_X5_first n v1 s) fun x1 s2 => eBd (e_X5_kind n v1 s2) fun x3 s4 => cond (eEq x3 1) (eBd (e_X3_add n x1 s4) fun x6 s7 => eBd (e_X5_second n v1 s7) fun x8 s9 => eBd (e_X3_add n x8 s9) fun x10 s11 => eRt 0 s11) (cond (eEq x3 2) (eBd (e_X3_add n x1 s4) fun x13 s14 => eBd (e_X5_second n v1 s14) fun x15 s16 => eBd (e_X3_add n x15 s16) fun x17 s18 => eRt 0 s18) (cond (eEq x3 3) (eBd (e_X3_add n x1 s4) fun x20 s21 => eRt 0 s21) (cond (eEq x3 4) (eBd (e_X6_of n x1 s4) fun x23 s24 => eBd (e_X6_of n v1 s24) fun x25 s26 => cond (eEq x23 x25) (eBd (e_X3_add n x1 s26) fun x32 s33 => eRt 0 s33) (eBd (e_X5_second n v1 s26) fun x28 s29 => eBd (e_X3_add n x28 s29) fun x30 s31 => eRt 0 s31)) (cond (eEq x3 5) (eBd (e_X6_of n x1 s4) fun x35 s36 => eBd (e_X6_of n v1 s36) fun x37 s38 => cond (eEq x35 x37) (eBd (e_X3_add n x1 s38) fun x44 s45 => eRt 0 s45) (eBd (e_X5_second n v1 s38) fun x40 s41 => eBd (e_X3_add n x40 s41) fun x42 s43 => eRt 0 s43)) (cond (eEq x3 6) (eBd (e_X3_add n x1 s4) fun x47 s48 => eRt 0 s48) (cond (eEq x3 7) (eBd (e_X3_add n x1 s4) fun x50 s51 => eRt 0 s51) (cond (eEq x3 8) (eBd (e_X6_of n x1 s4) fun x53 s54 => eBd (e_X6_of n v1 s54) fun x55 s56 => cond (eEq x53 x55) (eBd (e_X3_add n x1 s56) fun x62 s63 => eRt 0 s63) (eBd (e_X5_second n v1 s56) fun x58 s59 => eBd (e_X3_add n x58 s59) fun x60 s61 => eRt 0 s61)) (eRt 0 s4))))))))
theorem s_X3_addReasons (n : Nat) (v1 : Nat) (s : Nat) : eSim nI (m_X3_addReasons n (nI v1) (cS s)) (e_X3_addReasons n v1 s) := by
  unfold m_X3_addReasons e_X3_addReasons
  exact sBd (s_X5_first n v1 s) (fun x1 s2 => sBd (s_X5_kind n v1 s2) (fun x3 s4 => sIf (hEq rfl rfl) (sBd (s_X3_add n x1 s4) (fun x6 s7 => sBd (s_X5_second n v1 s7) (fun x8 s9 => sBd (s_X3_add n x8 s9) (fun x10 s11 => sRt rfl rfl)))) (sIf (hEq rfl rfl) (sBd (s_X3_add n x1 s4) (fun x13 s14 => sBd (s_X5_second n v1 s14) (fun x15 s16 => sBd (s_X3_add n x15 s16) (fun x17 s18 => sRt rfl rfl)))) (sIf (hEq rfl rfl) (sBd (s_X3_add n x1 s4) (fun x20 s21 => sRt rfl rfl)) (sIf (hEq rfl rfl) (sBd (s_X6_of n x1 s4) (fun x23 s24 => sBd (s_X6_of n v1 s24) (fun x25 s26 => sIf (hEq rfl rfl) (sBd (s_X3_add n x1 s26) (fun x32 s33 => sRt rfl rfl)) (sBd (s_X5_second n v1 s26) (fun x28 s29 => sBd (s_X3_add n x28 s29) (fun x30 s31 => sRt rfl rfl)))))) (sIf (hEq rfl rfl) (sBd (s_X6_of n x1 s4) (fun x35 s36 => sBd (s_X6_of n v1 s36) (fun x37 s38 => sIf (hEq rfl rfl) (sBd (s_X3_add n x1 s38) (fun x44 s45 => sRt rfl rfl)) (sBd (s_X5_second n v1 s38) (fun x40 s41 => sBd (s_X3_add n x40 s41) (fun x42 s43 => sRt rfl rfl)))))) (sIf (hEq rfl rfl) (sBd (s_X3_add n x1 s4) (fun x47 s48 => sRt rfl rfl)) (sIf (hEq rfl rfl) (sBd (s_X3_add n x1 s4) (fun x50 s51 => sRt rfl rfl)) (sIf (hEq rfl rfl) (sBd (s_X6_of n x1 s4) (fun x53 s54 => sBd (s_X6_of n v1 s54) (fun x55 s56 => sIf (hEq rfl rfl) (sBd (s_X3_add n x1 s56) (fun x62 s63 => sRt rfl rfl)) (sBd (s_X5_second n v1 s56) (fun x58 s59 => sBd (s_X3_add n x58 s59) (fun x60 s61 => sRt rfl rfl)))))) (sRt rfl rfl))))))))))
def e_X3_explain_j18 (n : Nat) : Nat → Nat → Nat → Option (Nat × Nat)
  | 0, _, _ => none
  | f + 1, v4, s =>
    cond (eLe 16 v4) (eRt 0 s) (cond (eLe (eGet s 25 1) v4) (eRt 0 s) (eBd (e_X7_at n 26 16 v4 s) fun x3 s4 => eBd (e_X3_addReasons n x3 s4) fun x5 s6 => eLi (eAdd v4 1) fun x7 => e_X3_explain_j18 n f x7 s6))
theorem s_X3_explain_j18 (n : Nat) : ∀ f v4 s, eSim nI (m_X3_explain_j18 n f (nI v4) (cS s)) (e_X3_explain_j18 n f v4 s) := by
  intro f
  induction f with
  | zero => intro v4 s; exact sNo
  | succ f ih =>
    intro v4 s
    rw [m_X3_explain_j18, e_X3_explain_j18]
    exact sIf (hLe rfl rfl) (sRt rfl rfl) (sIf (hLe (hGet rfl (by decide)) rfl) (sRt rfl rfl) (sBd (s_X7_at n 26 16 (by decide) v4 s) (fun x3 s4 => sBd (s_X3_addReasons n x3 s4) (fun x5 s6 => sLi (hAdd rfl rfl) (fun x7 => (ih x7 s6))))))
def e_X3_explain (n : Nat) (v1 : Nat) (s : Nat) : Option (Nat × Nat) :=
  eLi (eSet s 25 1 0) fun s8 => eLi (eSet s8 25 2 0) fun s9 => eBd (e_X3_add n v1 s9) fun x10 s11 => e_X3_explain_j18 n n 0 s11
theorem s_X3_explain (n : Nat) (v1 : Nat) (s : Nat) : eSim nI (m_X3_explain n (nI v1) (cS s)) (e_X3_explain n v1 s) := by
  unfold m_X3_explain e_X3_explain
  exact sLs (hSet rfl (by decide) rfl) (fun s8 => sLs (hSet rfl (by decide) rfl) (fun s9 => sBd (s_X3_add n v1 s9) (fun x10 s11 => (s_X3_explain_j18 n n 0 s11))))
def e_X3_lineAt (n : Nat) (v1 : Nat) (s : Nat) : Option (Nat × Nat) :=
  cond (eLt v1 0) (eRt 4294967295 s) (cond (eLe (eGet s 25 1) v1) (eRt 4294967295 s) (eBd (e_X7_at n 26 16 v1 s) fun x3 s4 => eRt x3 s4))
theorem s_X3_lineAt (n : Nat) (v1 : Nat) (s : Nat) : eSim nI (m_X3_lineAt n (nI v1) (cS s)) (e_X3_lineAt n v1 s) := by
  unfold m_X3_lineAt e_X3_lineAt
  exact sIf (hLt rfl rfl) (sRt (by decide) rfl) (sIf (hLe (hGet rfl (by decide)) rfl) (sRt (by decide) rfl) (sBd (s_X7_at n 26 16 (by decide) v1 s) (fun x3 s4 => sRt rfl rfl)))
def e_X7_takesFirst (n : Nat) (v0 : Nat) (s : Nat) : Option (Nat × Nat) :=
  cond (eEq v0 0) (eRt 0 s) (eRt 1 s)
theorem s_X7_takesFirst (n : Nat) (v0 : Nat) (s : Nat) : eSim nI (m_X7_takesFirst n (nI v0) (cS s)) (e_X7_takesFirst n v0 s) := by
  unfold m_X7_takesFirst e_X7_takesFirst
  exact sIf (hEq rfl rfl) (sRt rfl rfl) (sRt rfl rfl)
def e_X7_takesSecond_j26 (n : Nat) (s : Nat) : Option (Nat × Nat) :=
  eRt 1 s
theorem s_X7_takesSecond_j26 (n : Nat) (s : Nat) : eSim nI (m_X7_takesSecond_j26 n  (cS s)) (e_X7_takesSecond_j26 n  s) := by
  unfold m_X7_takesSecond_j26 e_X7_takesSecond_j26
  exact sRt rfl rfl
def e_X7_takesSecond (n : Nat) (v0 : Nat) (s : Nat) : Option (Nat × Nat) :=
  cond (eEq v0 1) (e_X7_takesSecond_j26 n s) (cond (eEq v0 2) (e_X7_takesSecond_j26 n s) (cond (eEq v0 4) (e_X7_takesSecond_j26 n s) (cond (eEq v0 5) (e_X7_takesSecond_j26 n s) (cond (eEq v0 8) (e_X7_takesSecond_j26 n s) (eRt 0 s)))))
theorem s_X7_takesSecond (n : Nat) (v0 : Nat) (s : Nat) : eSim nI (m_X7_takesSecond n (nI v0) (cS s)) (e_X7_takesSecond n v0 s) := by
  unfold m_X7_takesSecond e_X7_takesSecond
  exact sIf (hEq rfl rfl) ((s_X7_takesSecond_j26 n s)) (sIf (hEq rfl rfl) ((s_X7_takesSecond_j26 n s)) (sIf (hEq rfl rfl) ((s_X7_takesSecond_j26 n s)) (sIf (hEq rfl rfl) ((s_X7_takesSecond_j26 n s)) (sIf (hEq rfl rfl) ((s_X7_takesSecond_j26 n s)) (sRt rfl rfl)))))
def e_X5_uses_j25 (n : Nat) (v1 : Nat) (v2 : Nat) (t0 : Nat) (s : Nat) : Option (Nat × Nat) :=
  eBd (e_X7_takesSecond n v2 s) fun x1 s2 => cond (eEq x1 0) (eRt t0 s2) (eBd (e_X5_second n v1 s2) fun x4 s5 => eBd (e_X7_bit n x4 s5) fun x6 s7 => eRt (Nat.lor t0 x6) s7)
theorem s_X5_uses_j25 (n : Nat) (v1 : Nat) (v2 : Nat) (t0 : Nat) (s : Nat) : eSim nI (m_X5_uses_j25 n (nI v1) (nI v2) (nI t0) (cS s)) (e_X5_uses_j25 n v1 v2 t0 s) := by
  unfold m_X5_uses_j25 e_X5_uses_j25
  exact sBd (s_X7_takesSecond n v2 s) (fun x1 s2 => sIf (hEq rfl rfl) (sRt rfl rfl) (sBd (s_X5_second n v1 s2) (fun x4 s5 => sBd (s_X7_bit n x4 s5) (fun x6 s7 => sRt (hOr rfl rfl) rfl))))
def e_X5_uses (n : Nat) (v1 : Nat) (s : Nat) : Option (Nat × Nat) :=
  eBd (e_X5_kind n v1 s) fun x8 s9 => eBd (e_X7_takesFirst n x8 s9) fun x10 s11 => cond (eEq x10 0) (e_X5_uses_j25 n v1 x8 0 s11) (eBd (e_X5_first n v1 s11) fun x13 s14 => eBd (e_X7_bit n x13 s14) fun x15 s16 => e_X5_uses_j25 n v1 x8 x15 s16)
theorem s_X5_uses (n : Nat) (v1 : Nat) (s : Nat) : eSim nI (m_X5_uses n (nI v1) (cS s)) (e_X5_uses n v1 s) := by
  unfold m_X5_uses e_X5_uses
  exact sBd (s_X5_kind n v1 s) (fun x8 s9 => sBd (s_X7_takesFirst n x8 s9) (fun x10 s11 => sIf (hEq rfl rfl) ((s_X5_uses_j25 n v1 x8 0 s11)) (sBd (s_X5_first n v1 s11) (fun x13 s14 => sBd (s_X7_bit n x13 s14) (fun x15 s16 => (s_X5_uses_j25 n v1 x8 x15 s16))))))
def e_X4_reach (n : Nat) (v1 : Nat) (s : Nat) : Option (Nat × Nat) :=
  eBd (e_X7_at n 7 16 v1 s) fun x1 s2 => eRt x1 s2
theorem s_X4_reach (n : Nat) (v1 : Nat) (s : Nat) : eSim nI (m_X4_reach n (nI v1) (cS s)) (e_X4_reach n v1 s) := by
  unfold m_X4_reach e_X4_reach
  exact sBd (s_X7_at n 7 16 (by decide) v1 s) (fun x1 s2 => sRt rfl rfl)
def e_X4_findReach_j37 (rec29' : Nat → Nat → Option (Nat × Nat)) (n : Nat) : Nat → Nat → Nat → Nat → Option (Nat × Nat)
  | 0, _, _, _ => none
  | f + 1, v2, v3, s =>
    cond (eLe 16 v3) (eLi (eAdd v2 1) fun x2 => rec29' x2 s) (eBd (e_X4_reach n v3 s) fun x3 s4 => eBd (e_X7_has n x3 v2 s4) fun x5 s6 => cond (eEq x5 0) (eLi (eAdd v3 1) fun x8 => e_X4_findReach_j37 rec29' n f v2 x8 s6) (eBd (e_X4_reach n v3 s6) fun x9 s10 => eBd (e_X4_reach n v2 s10) fun x11 s12 => eBd (e_X7_put n 7 16 v3 (Nat.lor x9 x11) s12) fun x13 s14 => eLi (eAdd v3 1) fun x15 => e_X4_findReach_j37 rec29' n f v2 x15 s14))
theorem s_X4_findReach_j37 {rec29 : Int32 → zS → Option (Int32 × zS)} {rec29' : Nat → Nat → Option (Nat × Nat)} (hrec29 : ∀ a0 S, eSim nI (rec29 (nI a0) (cS S)) (rec29' a0 S)) (n : Nat) : ∀ f v2 v3 s, eSim nI (m_X4_findReach_j37 rec29 n f (nI v2) (nI v3) (cS s)) (e_X4_findReach_j37 rec29' n f v2 v3 s) := by
  intro f
  induction f with
  | zero => intro v2 v3 s; exact sNo
  | succ f ih =>
    intro v2 v3 s
    rw [m_X4_findReach_j37, e_X4_findReach_j37]
    exact sIf (hLe rfl rfl) (sLi (hAdd rfl rfl) (fun x2 => (hrec29 x2 s))) (sBd (s_X4_reach n v3 s) (fun x3 s4 => sBd (s_X7_has n x3 v2 s4) (fun x5 s6 => sIf (hEq rfl rfl) (sLi (hAdd rfl rfl) (fun x8 => (ih v2 x8 s6))) (sBd (s_X4_reach n v3 s6) (fun x9 s10 => sBd (s_X4_reach n v2 s10) (fun x11 s12 => sBd (by rw [show (nI x9) ||| (nI x11) = nI (Nat.lor x9 x11) from (hOr rfl rfl)]; exact s_X7_put n 7 16 (by decide) v3 (Nat.lor x9 x11) s12) (fun x13 s14 => sLi (hAdd rfl rfl) (fun x15 => (ih v2 x15 s14)))))))))
def e_X4_findReach_j29 (n : Nat) : Nat → Nat → Nat → Option (Nat × Nat)
  | 0, _, _ => none
  | f + 1, v2, s =>
    cond (eLe 16 v2) (eRt 0 s) (e_X4_findReach_j37 (e_X4_findReach_j29 n f) n n v2 0 s)
theorem s_X4_findReach_j29 (n : Nat) : ∀ f v2 s, eSim nI (m_X4_findReach_j29 n f (nI v2) (cS s)) (e_X4_findReach_j29 n f v2 s) := by
  intro f
  induction f with
  | zero => intro v2 s; exact sNo
  | succ f ih =>
    intro v2 s
    rw [m_X4_findReach_j29, e_X4_findReach_j29]
    exact sIf (hLe rfl rfl) (sRt rfl rfl) ((s_X4_findReach_j37 ih n n v2 0 s))
def e_X4_findReach_j2 (n : Nat) : Nat → Nat → Nat → Option (Nat × Nat)
  | 0, _, _ => none
  | f + 1, v2, s =>
    cond (eLe 16 v2) (e_X4_findReach_j29 n n 0 s) (eBd (e_X5_uses n v2 s) fun x18 s19 => eBd (e_X7_put n 7 16 v2 x18 s19) fun x20 s21 => eLi (eAdd v2 1) fun x22 => e_X4_findReach_j2 n f x22 s21)
theorem s_X4_findReach_j2 (n : Nat) : ∀ f v2 s, eSim nI (m_X4_findReach_j2 n f (nI v2) (cS s)) (e_X4_findReach_j2 n f v2 s) := by
  intro f
  induction f with
  | zero => intro v2 s; exact sNo
  | succ f ih =>
    intro v2 s
    rw [m_X4_findReach_j2, e_X4_findReach_j2]
    exact sIf (hLe rfl rfl) ((s_X4_findReach_j29 n n 0 s)) (sBd (s_X5_uses n v2 s) (fun x18 s19 => sBd (s_X7_put n 7 16 (by decide) v2 x18 s19) (fun x20 s21 => sLi (hAdd rfl rfl) (fun x22 => (ih x22 s21)))))
def e_X4_findReach (n : Nat) (s : Nat) : Option (Nat × Nat) :=
  e_X4_findReach_j2 n n 0 s
theorem s_X4_findReach (n : Nat) (s : Nat) : eSim nI (m_X4_findReach n  (cS s)) (e_X4_findReach n  s) := by
  unfold m_X4_findReach e_X4_findReach
  exact (s_X4_findReach_j2 n n 0 s)
def e_X4_findGroups_j15 (rec2' : Nat → Nat → Option (Nat × Nat)) (n : Nat) : Nat → Nat → Nat → Nat → Nat → Option (Nat × Nat)
  | 0, _, _, _, _ => none
  | f + 1, v1, v2, v3, s =>
    cond (eLe 16 v3) (eBd (e_X7_put n 8 16 v1 v2 s) fun x2 s3 => eLi (eAdd v1 1) fun x4 => rec2' x4 s3) (eBd (e_X4_reach n v1 s) fun x5 s6 => eBd (e_X7_has n x5 v3 s6) fun x7 s8 => cond (eEq x7 0) (eLi (eAdd v3 1) fun x10 => e_X4_findGroups_j15 rec2' n f v1 v2 x10 s8) (eBd (e_X4_reach n v3 s8) fun x11 s12 => eBd (e_X7_has n x11 v1 s12) fun x13 s14 => cond (eEq x13 0) (eLi (eAdd v3 1) fun x16 => e_X4_findGroups_j15 rec2' n f v1 v2 x16 s14) (eBd (e_X7_bit n v3 s14) fun x17 s18 => eLi (Nat.lor v2 x17) fun x19 => eLi (eAdd v3 1) fun x20 => e_X4_findGroups_j15 rec2' n f v1 x19 x20 s18)))
theorem s_X4_findGroups_j15 {rec2 : Int32 → zS → Option (Int32 × zS)} {rec2' : Nat → Nat → Option (Nat × Nat)} (hrec2 : ∀ a0 S, eSim nI (rec2 (nI a0) (cS S)) (rec2' a0 S)) (n : Nat) : ∀ f v1 v2 v3 s, eSim nI (m_X4_findGroups_j15 rec2 n f (nI v1) (nI v2) (nI v3) (cS s)) (e_X4_findGroups_j15 rec2' n f v1 v2 v3 s) := by
  intro f
  induction f with
  | zero => intro v1 v2 v3 s; exact sNo
  | succ f ih =>
    intro v1 v2 v3 s
    rw [m_X4_findGroups_j15, e_X4_findGroups_j15]
    exact sIf (hLe rfl rfl) (sBd (s_X7_put n 8 16 (by decide) v1 v2 s) (fun x2 s3 => sLi (hAdd rfl rfl) (fun x4 => (hrec2 x4 s3)))) (sBd (s_X4_reach n v1 s) (fun x5 s6 => sBd (s_X7_has n x5 v3 s6) (fun x7 s8 => sIf (hEq rfl rfl) (sLi (hAdd rfl rfl) (fun x10 => (ih v1 v2 x10 s8))) (sBd (s_X4_reach n v3 s8) (fun x11 s12 => sBd (s_X7_has n x11 v1 s12) (fun x13 s14 => sIf (hEq rfl rfl) (sLi (hAdd rfl rfl) (fun x16 => (ih v1 v2 x16 s14))) (sBd (s_X7_bit n v3 s14) (fun x17 s18 => sLi (hOr rfl rfl) (fun x19 => sLi (hAdd rfl rfl) (fun x20 => (ih v1 x19 x20 s18)))))))))))
def e_X4_findGroups_j2 (n : Nat) : Nat → Nat → Nat → Option (Nat × Nat)
  | 0, _, _ => none
  | f + 1, v1, s =>
    cond (eLe 16 v1) (eRt 0 s) (eBd (e_X7_bit n v1 s) fun x22 s23 => e_X4_findGroups_j15 (e_X4_findGroups_j2 n f) n n v1 x22 0 s23)
theorem s_X4_findGroups_j2 (n : Nat) : ∀ f v1 s, eSim nI (m_X4_findGroups_j2 n f (nI v1) (cS s)) (e_X4_findGroups_j2 n f v1 s) := by
  intro f
  induction f with
  | zero => intro v1 s; exact sNo
  | succ f ih =>
    intro v1 s
    rw [m_X4_findGroups_j2, e_X4_findGroups_j2]
    exact sIf (hLe rfl rfl) (sRt rfl rfl) (sBd (s_X7_bit n v1 s) (fun x22 s23 => (s_X4_findGroups_j15 ih n n v1 x22 0 s23)))
def e_X4_findGroups (n : Nat) (s : Nat) : Option (Nat × Nat) :=
  e_X4_findGroups_j2 n n 0 s
theorem s_X4_findGroups (n : Nat) (s : Nat) : eSim nI (m_X4_findGroups n  (cS s)) (e_X4_findGroups n  s) := by
  unfold m_X4_findGroups e_X4_findGroups
  exact (s_X4_findGroups_j2 n n 0 s)
def e_X4_groupOf (n : Nat) (v1 : Nat) (s : Nat) : Option (Nat × Nat) :=
  eBd (e_X7_at n 8 16 v1 s) fun x1 s2 => eRt x1 s2
theorem s_X4_groupOf (n : Nat) (v1 : Nat) (s : Nat) : eSim nI (m_X4_groupOf n (nI v1) (cS s)) (e_X4_groupOf n v1 s) := by
  unfold m_X4_groupOf e_X4_groupOf
  exact sBd (s_X7_at n 8 16 (by decide) v1 s) (fun x1 s2 => sRt rfl rfl)
def e_X4_isReady (n : Nat) (v1 : Nat) (s : Nat) : Option (Nat × Nat) :=
  eBd (e_X7_has n (eGet s 6 4) v1 s) fun x1 s2 => cond (eEq x1 0) (eBd (e_X4_reach n v1 s2) fun x4 s5 => eBd (e_X4_groupOf n v1 s5) fun x6 s7 => cond (eEq (Nat.land (Nat.land x4 (Nat.xor x6 4294967295)) (Nat.xor (eGet s7 6 4) 4294967295)) 0) (eRt 1 s7) (eRt 0 s7)) (eRt 0 s2)
theorem s_X4_isReady (n : Nat) (v1 : Nat) (s : Nat) : eSim nI (m_X4_isReady n (nI v1) (cS s)) (e_X4_isReady n v1 s) := by
  unfold m_X4_isReady e_X4_isReady
  exact sBd (by rw [show (cS s) 6 4 = nI (eGet s 6 4) from (hGet rfl (by decide))]; exact s_X7_has n (eGet s 6 4) v1 s) (fun x1 s2 => sIf (hEq rfl rfl) (sBd (s_X4_reach n v1 s2) (fun x4 s5 => sBd (s_X4_groupOf n v1 s5) (fun x6 s7 => sIf (hEq (hAnd (hAnd rfl (hXor rfl (by decide))) (hXor (hGet rfl (by decide)) (by decide))) rfl) (sRt rfl rfl) (sRt rfl rfl)))) (sRt rfl rfl))
def e_X4_isCircular (n : Nat) (v1 : Nat) (s : Nat) : Option (Nat × Nat) :=
  eBd (e_X4_reach n v1 s) fun x1 s2 => eBd (e_X7_has n x1 v1 s2) fun x3 s4 => eGb (Nat.ble x3 1) (eRt x3 s4)
theorem s_X4_isCircular (n : Nat) (v1 : Nat) (s : Nat) : eSim nI (m_X4_isCircular n (nI v1) (cS s)) (e_X4_isCircular n v1 s) := by
  unfold m_X4_isCircular e_X4_isCircular
  exact sBd (s_X4_reach n v1 s) (fun x1 s2 => sBd (s_X7_has n x1 v1 s2) (fun x3 s4 => sGb rfl (sRt rfl rfl)))
def e_X4_place (n : Nat) (v1 : Nat) (s : Nat) : Option (Nat × Nat) :=
  eBd (e_X7_put n 9 16 (eGet s 6 3) v1 s) fun x1 s2 => eLi (eSet s2 6 3 (eAdd (eGet s2 6 3) 1)) fun s3 => eBd (e_X7_bit n v1 s3) fun x4 s5 => eLi (eSet s5 6 4 (Nat.lor (eGet s3 6 4) x4)) fun s6 => eRt 0 s6
theorem s_X4_place (n : Nat) (v1 : Nat) (s : Nat) : eSim nI (m_X4_place n (nI v1) (cS s)) (e_X4_place n v1 s) := by
  unfold m_X4_place e_X4_place
  exact sBd (by rw [show (cS s) 6 3 = nI (eGet s 6 3) from (hGet rfl (by decide))]; exact s_X7_put n 9 16 (by decide) (eGet s 6 3) v1 s) (fun x1 s2 => sLs (hSet rfl (by decide) (hAdd (hGet rfl (by decide)) rfl)) (fun s3 => sBd (s_X7_bit n v1 s3) (fun x4 s5 => sLs (hSet rfl (by decide) (hOr (hGet rfl (by decide)) rfl)) (fun s6 => sRt rfl rfl))))
def e_X4_onlyLimit_j5 (n : Nat) : Nat → Nat → Nat → Nat → Nat → Option (Nat × Nat)
  | 0, _, _, _, _ => none
  | f + 1, v2, v3, v4, s =>
    cond (eLe 16 v4) (eRt v3 s) (eBd (e_X7_has n v2 v4 s) fun x2 s3 => cond (eEq x2 0) (eLi (eAdd v4 1) fun x5 => e_X4_onlyLimit_j5 n f v2 v3 x5 s3) (eBd (e_X5_kind n v4 s3) fun x6 s7 => cond (eEq x6 8) (cond (eEq v3 4294967295) (eLi (eAdd v4 1) fun x11 => e_X4_onlyLimit_j5 n f v2 v4 x11 s7) (eRt 4294967295 s7)) (eLi (eAdd v4 1) fun x9 => e_X4_onlyLimit_j5 n f v2 v3 x9 s7)))
theorem s_X4_onlyLimit_j5 (n : Nat) : ∀ f v2 v3 v4 s, eSim nI (m_X4_onlyLimit_j5 n f (nI v2) (nI v3) (nI v4) (cS s)) (e_X4_onlyLimit_j5 n f v2 v3 v4 s) := by
  intro f
  induction f with
  | zero => intro v2 v3 v4 s; exact sNo
  | succ f ih =>
    intro v2 v3 v4 s
    rw [m_X4_onlyLimit_j5, e_X4_onlyLimit_j5]
    exact sIf (hLe rfl rfl) (sRt rfl rfl) (sBd (s_X7_has n v2 v4 s) (fun x2 s3 => sIf (hEq rfl rfl) (sLi (hAdd rfl rfl) (fun x5 => (ih v2 v3 x5 s3))) (sBd (s_X5_kind n v4 s3) (fun x6 s7 => sIf (hEq rfl rfl) (sIf (hEq rfl (by decide)) (sLi (hAdd rfl rfl) (fun x11 => (ih v2 v4 x11 s7))) (sRt (by decide) rfl)) (sLi (hAdd rfl rfl) (fun x9 => (ih v2 v3 x9 s7)))))))
def e_X4_onlyLimit (n : Nat) (v2 : Nat) (s : Nat) : Option (Nat × Nat) :=
  e_X4_onlyLimit_j5 n n v2 4294967295 0 s
theorem s_X4_onlyLimit (n : Nat) (v2 : Nat) (s : Nat) : eSim nI (m_X4_onlyLimit n (nI v2) (cS s)) (e_X4_onlyLimit n v2 s) := by
  unfold m_X4_onlyLimit e_X4_onlyLimit
  exact (by rw [show (-1 : Int32) = nI 4294967295 from by decide]; exact s_X4_onlyLimit_j5 n n v2 4294967295 0 s)
def e_X4_direct_j127 (n : Nat) (v2 : Nat) (v7 : Nat) (s : Nat) : Option (Nat × Nat) :=
  cond (eEq v7 0) (eRt 0 s) (eBd (e_X7_bit n v2 s) fun x2 s3 => eLi (eSet s3 6 6 (Nat.lor (eGet s 6 6) x2)) fun s4 => eRt 0 s4)
theorem s_X4_direct_j127 (n : Nat) (v2 : Nat) (v7 : Nat) (s : Nat) : eSim nI (m_X4_direct_j127 n (nI v2) (nI v7) (cS s)) (e_X4_direct_j127 n v2 v7 s) := by
  unfold m_X4_direct_j127 e_X4_direct_j127
  exact sIf (hEq rfl rfl) (sRt rfl rfl) (sBd (s_X7_bit n v2 s) (fun x2 s3 => sLs (hSet rfl (by decide) (hOr (hGet rfl (by decide)) rfl)) (fun s4 => sRt rfl rfl)))
def e_X4_direct_j107 (n : Nat) (v2 : Nat) (v6 : Nat) (t0 : Nat) (s : Nat) : Option (Nat × Nat) :=
  cond (eEq v6 0) (e_X4_direct_j127 n v2 t0 s) (eBd (e_X7_bit n v2 s) fun x6 s7 => eLi (eSet s7 6 5 (Nat.lor (eGet s 6 5) x6)) fun s8 => e_X4_direct_j127 n v2 t0 s8)
theorem s_X4_direct_j107 (n : Nat) (v2 : Nat) (v6 : Nat) (t0 : Nat) (s : Nat) : eSim nI (m_X4_direct_j107 n (nI v2) (nI v6) (nI t0) (cS s)) (e_X4_direct_j107 n v2 v6 t0 s) := by
  unfold m_X4_direct_j107 e_X4_direct_j107
  exact sIf (hEq rfl rfl) ((s_X4_direct_j127 n v2 t0 s)) (sBd (s_X7_bit n v2 s) (fun x6 s7 => sLs (hSet rfl (by decide) (hOr (hGet rfl (by decide)) rfl)) (fun s8 => (s_X4_direct_j127 n v2 t0 s8))))
def e_X4_direct_j80 (n : Nat) (v2 : Nat) (v4 : Nat) (v5 : Nat) (t0 : Nat) (s : Nat) : Option (Nat × Nat) :=
  cond (eEq (Nat.land v4 (eGet s 6 6)) 0) (cond (eEq (Nat.land v5 (eGet s 6 5)) 0) (e_X4_direct_j107 n v2 t0 0 s) (e_X4_direct_j107 n v2 t0 1 s)) (e_X4_direct_j107 n v2 t0 1 s)
theorem s_X4_direct_j80 (n : Nat) (v2 : Nat) (v4 : Nat) (v5 : Nat) (t0 : Nat) (s : Nat) : eSim nI (m_X4_direct_j80 n (nI v2) (nI v4) (nI v5) (nI t0) (cS s)) (e_X4_direct_j80 n v2 v4 v5 t0 s) := by
  unfold m_X4_direct_j80 e_X4_direct_j80
  exact sIf (hEq (hAnd rfl (hGet rfl (by decide))) rfl) (sIf (hEq (hAnd rfl (hGet rfl (by decide))) rfl) ((s_X4_direct_j107 n v2 t0 0 s)) ((s_X4_direct_j107 n v2 t0 1 s))) ((s_X4_direct_j107 n v2 t0 1 s))
def e_X4_direct_j53 (n : Nat) (v2 : Nat) (v4 : Nat) (t0 : Nat) (s : Nat) : Option (Nat × Nat) :=
  cond (eEq (Nat.land v4 (eGet s 6 5)) 0) (cond (eEq (Nat.land t0 (eGet s 6 6)) 0) (e_X4_direct_j80 n v2 v4 t0 0 s) (e_X4_direct_j80 n v2 v4 t0 1 s)) (e_X4_direct_j80 n v2 v4 t0 1 s)
theorem s_X4_direct_j53 (n : Nat) (v2 : Nat) (v4 : Nat) (t0 : Nat) (s : Nat) : eSim nI (m_X4_direct_j53 n (nI v2) (nI v4) (nI t0) (cS s)) (e_X4_direct_j53 n v2 v4 t0 s) := by
  unfold m_X4_direct_j53 e_X4_direct_j53
  exact sIf (hEq (hAnd rfl (hGet rfl (by decide))) rfl) (sIf (hEq (hAnd rfl (hGet rfl (by decide))) rfl) ((s_X4_direct_j80 n v2 v4 t0 0 s)) ((s_X4_direct_j80 n v2 v4 t0 1 s))) ((s_X4_direct_j80 n v2 v4 t0 1 s))
def e_X4_direct_j35 (n : Nat) (v2 : Nat) (v3 : Nat) (t0 : Nat) (s : Nat) : Option (Nat × Nat) :=
  cond (eEq v3 0) (e_X4_direct_j53 n v2 t0 0 s) (eBd (e_X5_second n v2 s) fun x14 s15 => eBd (e_X7_bit n x14 s15) fun x16 s17 => e_X4_direct_j53 n v2 t0 x16 s17)
theorem s_X4_direct_j35 (n : Nat) (v2 : Nat) (v3 : Nat) (t0 : Nat) (s : Nat) : eSim nI (m_X4_direct_j35 n (nI v2) (nI v3) (nI t0) (cS s)) (e_X4_direct_j35 n v2 v3 t0 s) := by
  unfold m_X4_direct_j35 e_X4_direct_j35
  exact sIf (hEq rfl rfl) ((s_X4_direct_j53 n v2 t0 0 s)) (sBd (s_X5_second n v2 s) (fun x14 s15 => sBd (s_X7_bit n x14 s15) (fun x16 s17 => (s_X4_direct_j53 n v2 t0 x16 s17))))
def e_X4_direct_j14 (n : Nat) (v2 : Nat) (t0 : Nat) (s : Nat) : Option (Nat × Nat) :=
  cond (eEq t0 0) (eBd (e_X5_uses n v2 s) fun x19 s20 => e_X4_direct_j35 n v2 t0 x19 s20) (eBd (e_X5_first n v2 s) fun x21 s22 => eBd (e_X7_bit n x21 s22) fun x23 s24 => e_X4_direct_j35 n v2 t0 x23 s24)
theorem s_X4_direct_j14 (n : Nat) (v2 : Nat) (t0 : Nat) (s : Nat) : eSim nI (m_X4_direct_j14 n (nI v2) (nI t0) (cS s)) (e_X4_direct_j14 n v2 t0 s) := by
  unfold m_X4_direct_j14 e_X4_direct_j14
  exact sIf (hEq rfl rfl) (sBd (s_X5_uses n v2 s) (fun x19 s20 => (s_X4_direct_j35 n v2 t0 x19 s20))) (sBd (s_X5_first n v2 s) (fun x21 s22 => sBd (s_X7_bit n x21 s22) (fun x23 s24 => (s_X4_direct_j35 n v2 t0 x23 s24))))
def e_X4_direct (n : Nat) (v2 : Nat) (s : Nat) : Option (Nat × Nat) :=
  eBd (e_X5_kind n v2 s) fun x25 s26 => cond (eEq x25 2) (e_X4_direct_j14 n v2 1 s26) (e_X4_direct_j14 n v2 0 s26)
theorem s_X4_direct (n : Nat) (v2 : Nat) (s : Nat) : eSim nI (m_X4_direct n (nI v2) (cS s)) (e_X4_direct n v2 s) := by
  unfold m_X4_direct e_X4_direct
  exact sBd (s_X5_kind n v2 s) (fun x25 s26 => sIf (hEq rfl rfl) ((s_X4_direct_j14 n v2 1 s26)) ((s_X4_direct_j14 n v2 0 s26)))
def e_X4_placeCircle_j137 (n : Nat) (v3 : Nat) (t0 : Nat) (s : Nat) : Option (Nat × Nat) :=
  cond (eEq t0 0) (eRt 0 s) (cond (eEq (Nat.land (eGet s 6 5) (eGet s 6 6)) 0) (eBd (e_X5_second n v3 s) fun x3 s4 => eBd (e_X7_has n (eGet s 6 6) x3 s4) fun x5 s6 => cond (eEq x5 0) (eRt 0 s6) (eRt 1 s6)) (eRt 0 s))
theorem s_X4_placeCircle_j137 (n : Nat) (v3 : Nat) (t0 : Nat) (s : Nat) : eSim nI (m_X4_placeCircle_j137 n (nI v3) (nI t0) (cS s)) (e_X4_placeCircle_j137 n v3 t0 s) := by
  unfold m_X4_placeCircle_j137 e_X4_placeCircle_j137
  exact sIf (hEq rfl rfl) (sRt rfl rfl) (sIf (hEq (hAnd (hGet rfl (by decide)) (hGet rfl (by decide))) rfl) (sBd (s_X5_second n v3 s) (fun x3 s4 => sBd (by rw [show (cS s) 6 6 = nI (eGet s 6 6) from (hGet rfl (by decide))]; exact s_X7_has n (eGet s 6 6) x3 s4) (fun x5 s6 => sIf (hEq rfl rfl) (sRt rfl rfl) (sRt rfl rfl)))) (sRt rfl rfl))
def e_X4_placeCircle_j57 (rec47' : Nat → Nat → Nat → Nat → Option (Nat × Nat)) (n : Nat) : Nat → Nat → Nat → Nat → Nat → Nat → Option (Nat × Nat)
  | 0, _, _, _, _, _ => none
  | f + 1, v2, v3, v4, v5, s =>
    cond (eLe 16 v5) (eLi (eAdd v4 1) fun x9 => rec47' v2 v3 x9 s) (eBd (e_X7_has n (Nat.land v2 (Nat.xor (eGet s 6 4) 4294967295)) v5 s) fun x10 s11 => cond (eEq x10 0) (eLi (eAdd v5 1) fun x13 => e_X4_placeCircle_j57 rec47' n f v2 v3 v4 x13 s11) (eBd (e_X5_uses n v5 s11) fun x14 s15 => cond (eEq (Nat.land x14 (Nat.xor (eGet s15 6 4) 4294967295)) 0) (eBd (e_X4_place n v5 s15) fun x18 s19 => eBd (e_X4_direct n v5 s19) fun x20 s21 => eLi (eAdd v5 1) fun x22 => e_X4_placeCircle_j57 rec47' n f v2 v3 v4 x22 s21) (eLi (eAdd v5 1) fun x17 => e_X4_placeCircle_j57 rec47' n f v2 v3 v4 x17 s15)))
theorem s_X4_placeCircle_j57 {rec47 : Int32 → Int32 → Int32 → zS → Option (Int32 × zS)} {rec47' : Nat → Nat → Nat → Nat → Option (Nat × Nat)} (hrec47 : ∀ a0 a1 a2 S, eSim nI (rec47 (nI a0) (nI a1) (nI a2) (cS S)) (rec47' a0 a1 a2 S)) (n : Nat) : ∀ f v2 v3 v4 v5 s, eSim nI (m_X4_placeCircle_j57 rec47 n f (nI v2) (nI v3) (nI v4) (nI v5) (cS s)) (e_X4_placeCircle_j57 rec47' n f v2 v3 v4 v5 s) := by
  intro f
  induction f with
  | zero => intro v2 v3 v4 v5 s; exact sNo
  | succ f ih =>
    intro v2 v3 v4 v5 s
    rw [m_X4_placeCircle_j57, e_X4_placeCircle_j57]
    exact sIf (hLe rfl rfl) (sLi (hAdd rfl rfl) (fun x9 => (hrec47 v2 v3 x9 s))) (sBd (by rw [show (nI v2) &&& (((cS s) 6 4) ^^^ ((-1 : Int32))) = nI (Nat.land v2 (Nat.xor (eGet s 6 4) 4294967295)) from (hAnd rfl (hXor (hGet rfl (by decide)) (by decide)))]; exact s_X7_has n (Nat.land v2 (Nat.xor (eGet s 6 4) 4294967295)) v5 s) (fun x10 s11 => sIf (hEq rfl rfl) (sLi (hAdd rfl rfl) (fun x13 => (ih v2 v3 v4 x13 s11))) (sBd (s_X5_uses n v5 s11) (fun x14 s15 => sIf (hEq (hAnd rfl (hXor (hGet rfl (by decide)) (by decide))) rfl) (sBd (s_X4_place n v5 s15) (fun x18 s19 => sBd (s_X4_direct n v5 s19) (fun x20 s21 => sLi (hAdd rfl rfl) (fun x22 => (ih v2 v3 v4 x22 s21))))) (sLi (hAdd rfl rfl) (fun x17 => (ih v2 v3 v4 x17 s15)))))))
def e_X4_placeCircle_j47 (n : Nat) : Nat → Nat → Nat → Nat → Nat → Option (Nat × Nat)
  | 0, _, _, _, _ => none
  | f + 1, v2, v3, v4, s =>
    cond (eLe 16 v4) (cond (eEq (Nat.land v2 (Nat.xor (eGet s 6 4) 4294967295)) 0) (e_X4_placeCircle_j137 n v3 1 s) (e_X4_placeCircle_j137 n v3 0 s)) (e_X4_placeCircle_j57 (e_X4_placeCircle_j47 n f) n n v2 v3 v4 0 s)
theorem s_X4_placeCircle_j47 (n : Nat) : ∀ f v2 v3 v4 s, eSim nI (m_X4_placeCircle_j47 n f (nI v2) (nI v3) (nI v4) (cS s)) (e_X4_placeCircle_j47 n f v2 v3 v4 s) := by
  intro f
  induction f with
  | zero => intro v2 v3 v4 s; exact sNo
  | succ f ih =>
    intro v2 v3 v4 s
    rw [m_X4_placeCircle_j47, e_X4_placeCircle_j47]
    exact sIf (hLe rfl rfl) (sIf (hEq (hAnd rfl (hXor (hGet rfl (by decide)) (by decide))) rfl) ((s_X4_placeCircle_j137 n v3 1 s)) ((s_X4_placeCircle_j137 n v3 0 s))) ((s_X4_placeCircle_j57 ih n n v2 v3 v4 0 s))
def e_X4_placeCircle (n : Nat) (v2 : Nat) (s : Nat) : Option (Nat × Nat) :=
  eBd (e_X4_onlyLimit n v2 s) fun x25 s26 => cond (eEq x25 4294967295) (eRt 0 s26) (eBd (e_X5_first n x25 s26) fun x28 s29 => eBd (e_X7_has n v2 x28 s29) fun x30 s31 => cond (eEq x30 0) (eBd (e_X7_bit n x25 s31) fun x33 s34 => eLi (eSet s34 6 5 x33) fun s35 => eLi (eSet s35 6 6 0) fun s36 => eBd (e_X4_place n x25 s36) fun x37 s38 => e_X4_placeCircle_j47 n n v2 x25 0 s38) (eRt 0 s31))
theorem s_X4_placeCircle (n : Nat) (v2 : Nat) (s : Nat) : eSim nI (m_X4_placeCircle n (nI v2) (cS s)) (e_X4_placeCircle n v2 s) := by
  unfold m_X4_placeCircle e_X4_placeCircle
  exact sBd (s_X4_onlyLimit n v2 s) (fun x25 s26 => sIf (hEq rfl (by decide)) (sRt rfl rfl) (sBd (s_X5_first n x25 s26) (fun x28 s29 => sBd (s_X7_has n v2 x28 s29) (fun x30 s31 => sIf (hEq rfl rfl) (sBd (s_X7_bit n x25 s31) (fun x33 s34 => sLs (hSet rfl (by decide) rfl) (fun s35 => sLs (hSet rfl (by decide) rfl) (fun s36 => sBd (s_X4_place n x25 s36) (fun x37 s38 => (s_X4_placeCircle_j47 n n v2 x25 0 s38)))))) (sRt rfl rfl)))))
def e_X4_make_j68 (rec21' : Nat → Nat → Option (Nat × Nat)) (rec38' : Nat → Nat → Nat → Option (Nat × Nat)) (n : Nat) (v2 : Nat) (v3 : Nat) (s : Nat) : Option (Nat × Nat) :=
  eBd (e_X4_isReady n v3 s) fun x1 s2 => cond (eEq x1 0) (eLi (eAdd v3 1) fun x4 => rec38' v2 x4 s2) (eBd (e_X4_groupOf n v3 s2) fun x5 s6 => eBd (e_X4_placeCircle n x5 s6) fun x7 s8 => cond (eEq x7 0) (eRt 0 s8) (eLi (eAdd v3 1) fun x10 => rec38' v2 x10 s8))
theorem s_X4_make_j68 {rec21 : Int32 → zS → Option (Int32 × zS)} {rec38 : Int32 → Int32 → zS → Option (Int32 × zS)} {rec21' : Nat → Nat → Option (Nat × Nat)} {rec38' : Nat → Nat → Nat → Option (Nat × Nat)} (hrec21 : ∀ a0 S, eSim nI (rec21 (nI a0) (cS S)) (rec21' a0 S)) (hrec38 : ∀ a0 a1 S, eSim nI (rec38 (nI a0) (nI a1) (cS S)) (rec38' a0 a1 S)) (n : Nat) (v2 : Nat) (v3 : Nat) (s : Nat) : eSim nI (m_X4_make_j68 rec21 rec38 n (nI v2) (nI v3) (cS s)) (e_X4_make_j68 rec21' rec38' n v2 v3 s) := by
  unfold m_X4_make_j68 e_X4_make_j68
  exact sBd (s_X4_isReady n v3 s) (fun x1 s2 => sIf (hEq rfl rfl) (sLi (hAdd rfl rfl) (fun x4 => (hrec38 v2 x4 s2))) (sBd (s_X4_groupOf n v3 s2) (fun x5 s6 => sBd (s_X4_placeCircle n x5 s6) (fun x7 s8 => sIf (hEq rfl rfl) (sRt rfl rfl) (sLi (hAdd rfl rfl) (fun x10 => (hrec38 v2 x10 s8)))))))
def e_X4_make_j38 (rec21' : Nat → Nat → Option (Nat × Nat)) (n : Nat) : Nat → Nat → Nat → Nat → Option (Nat × Nat)
  | 0, _, _, _ => none
  | f + 1, v2, v3, s =>
    cond (eLe 16 v3) (eLi (eAdd v2 1) fun x12 => rec21' x12 s) (eBd (e_X4_isReady n v3 s) fun x13 s14 => cond (eEq x13 0) (e_X4_make_j68 rec21' (e_X4_make_j38 rec21' n f) n v2 v3 s14) (eBd (e_X4_isCircular n v3 s14) fun x16 s17 => cond (eEq x16 0) (eBd (e_X4_place n v3 s17) fun x19 s20 => eLi (eAdd v3 1) fun x21 => e_X4_make_j38 rec21' n f v2 x21 s20) (e_X4_make_j68 rec21' (e_X4_make_j38 rec21' n f) n v2 v3 s17)))
theorem s_X4_make_j38 {rec21 : Int32 → zS → Option (Int32 × zS)} {rec21' : Nat → Nat → Option (Nat × Nat)} (hrec21 : ∀ a0 S, eSim nI (rec21 (nI a0) (cS S)) (rec21' a0 S)) (n : Nat) : ∀ f v2 v3 s, eSim nI (m_X4_make_j38 rec21 n f (nI v2) (nI v3) (cS s)) (e_X4_make_j38 rec21' n f v2 v3 s) := by
  intro f
  induction f with
  | zero => intro v2 v3 s; exact sNo
  | succ f ih =>
    intro v2 v3 s
    rw [m_X4_make_j38, e_X4_make_j38]
    exact sIf (hLe rfl rfl) (sLi (hAdd rfl rfl) (fun x12 => (hrec21 x12 s))) (sBd (s_X4_isReady n v3 s) (fun x13 s14 => sIf (hEq rfl rfl) ((s_X4_make_j68 hrec21 ih n v2 v3 s14)) (sBd (s_X4_isCircular n v3 s14) (fun x16 s17 => sIf (hEq rfl rfl) (sBd (s_X4_place n v3 s17) (fun x19 s20 => sLi (hAdd rfl rfl) (fun x21 => (ih v2 x21 s20)))) ((s_X4_make_j68 hrec21 ih n v2 v3 s17))))))
def e_X4_make_j21 (n : Nat) : Nat → Nat → Nat → Option (Nat × Nat)
  | 0, _, _ => none
  | f + 1, v2, s =>
    cond (eLe 16 v2) (eRt 1 s) (cond (eEq (eGet s 6 4) 65535) (eRt 1 s) (e_X4_make_j38 (e_X4_make_j21 n f) n n v2 0 s))
theorem s_X4_make_j21 (n : Nat) : ∀ f v2 s, eSim nI (m_X4_make_j21 n f (nI v2) (cS s)) (e_X4_make_j21 n f v2 s) := by
  intro f
  induction f with
  | zero => intro v2 s; exact sNo
  | succ f ih =>
    intro v2 s
    rw [m_X4_make_j21, e_X4_make_j21]
    exact sIf (hLe rfl rfl) (sRt rfl rfl) (sIf (hEq (hGet rfl (by decide)) rfl) (sRt rfl rfl) ((s_X4_make_j38 ih n n v2 0 s)))
def e_X4_make (n : Nat) (s : Nat) : Option (Nat × Nat) :=
  eBd (e_X4_findReach n s) fun x24 s25 => eBd (e_X4_findGroups n s25) fun x26 s27 => eLi (eSet s27 6 3 0) fun s28 => eLi (eSet s28 6 4 0) fun s29 => e_X4_make_j21 n n 0 s29
theorem s_X4_make (n : Nat) (s : Nat) : eSim nI (m_X4_make n  (cS s)) (e_X4_make n  s) := by
  unfold m_X4_make e_X4_make
  exact sBd (s_X4_findReach n s) (fun x24 s25 => sBd (s_X4_findGroups n s25) (fun x26 s27 => sLs (hSet rfl (by decide) rfl) (fun s28 => sLs (hSet rfl (by decide) rfl) (fun s29 => (s_X4_make_j21 n n 0 s29)))))
def e_X4_lineAt (n : Nat) (v1 : Nat) (s : Nat) : Option (Nat × Nat) :=
  eBd (e_X7_at n 9 16 v1 s) fun x1 s2 => eRt x1 s2
theorem s_X4_lineAt (n : Nat) (v1 : Nat) (s : Nat) : eSim nI (m_X4_lineAt n (nI v1) (cS s)) (e_X4_lineAt n v1 s) := by
  unfold m_X4_lineAt e_X4_lineAt
  exact sBd (s_X7_at n 9 16 (by decide) v1 s) (fun x1 s2 => sRt rfl rfl)
def e_X4_placeOf_j2 (n : Nat) : Nat → Nat → Nat → Nat → Option (Nat × Nat)
  | 0, _, _, _ => none
  | f + 1, v1, v2, s =>
    cond (eLe 16 v2) (eRt 4294967295 s) (eBd (e_X4_lineAt n v2 s) fun x2 s3 => cond (eEq x2 v1) (eRt v2 s3) (eLi (eAdd v2 1) fun x5 => e_X4_placeOf_j2 n f v1 x5 s3))
theorem s_X4_placeOf_j2 (n : Nat) : ∀ f v1 v2 s, eSim nI (m_X4_placeOf_j2 n f (nI v1) (nI v2) (cS s)) (e_X4_placeOf_j2 n f v1 v2 s) := by
  intro f
  induction f with
  | zero => intro v1 v2 s; exact sNo
  | succ f ih =>
    intro v1 v2 s
    rw [m_X4_placeOf_j2, e_X4_placeOf_j2]
    exact sIf (hLe rfl rfl) (sRt (by decide) rfl) (sBd (s_X4_lineAt n v2 s) (fun x2 s3 => sIf (hEq rfl rfl) (sRt rfl rfl) (sLi (hAdd rfl rfl) (fun x5 => (ih v1 x5 s3)))))
def e_X4_placeOf (n : Nat) (v1 : Nat) (s : Nat) : Option (Nat × Nat) :=
  e_X4_placeOf_j2 n n v1 0 s
theorem s_X4_placeOf (n : Nat) (v1 : Nat) (s : Nat) : eSim nI (m_X4_placeOf n (nI v1) (cS s)) (e_X4_placeOf n v1 s) := by
  unfold m_X4_placeOf e_X4_placeOf
  exact (s_X4_placeOf_j2 n n v1 0 s)
def e_X5_set (n : Nat) (v1 : Nat) (v2 : Nat) (v3 : Nat) (v4 : Nat) (s : Nat) : Option (Nat × Nat) :=
  eBd (e_X7_put n 2 16 v1 v2 s) fun x1 s2 => eBd (e_X7_put n 3 16 v1 v3 s2) fun x3 s4 => eBd (e_X7_put n 4 16 v1 v4 s4) fun x5 s6 => eRt 0 s6
theorem s_X5_set (n : Nat) (v1 : Nat) (v2 : Nat) (v3 : Nat) (v4 : Nat) (s : Nat) : eSim nI (m_X5_set n (nI v1) (nI v2) (nI v3) (nI v4) (cS s)) (e_X5_set n v1 v2 v3 v4 s) := by
  unfold m_X5_set e_X5_set
  exact sBd (s_X7_put n 2 16 (by decide) v1 v2 s) (fun x1 s2 => sBd (s_X7_put n 3 16 (by decide) v1 v3 s2) (fun x3 s4 => sBd (s_X7_put n 4 16 (by decide) v1 v4 s4) (fun x5 s6 => sRt rfl rfl)))
def e_X5_given (n : Nat) (v1 : Nat) (s : Nat) : Option (Nat × Nat) :=
  eBd (e_X7_at n 5 16 v1 s) fun x1 s2 => eRt x1 s2
theorem s_X5_given (n : Nat) (v1 : Nat) (s : Nat) : eSim nI (m_X5_given n (nI v1) (cS s)) (e_X5_given n v1 s) := by
  unfold m_X5_given e_X5_given
  exact sBd (s_X7_at n 5 16 (by decide) v1 s) (fun x1 s2 => sRt rfl rfl)
def e_X5_give (n : Nat) (v1 : Nat) (v2 : Nat) (s : Nat) : Option (Nat × Nat) :=
  eBd (e_X7_put n 5 16 v1 v2 s) fun x1 s2 => eRt 0 s2
theorem s_X5_give (n : Nat) (v1 : Nat) (v2 : Nat) (s : Nat) : eSim nI (m_X5_give n (nI v1) (nI v2) (cS s)) (e_X5_give n v1 v2 s) := by
  unfold m_X5_give e_X5_give
  exact sBd (s_X7_put n 5 16 (by decide) v1 v2 s) (fun x1 s2 => sRt rfl rfl)
def e_J6_bitCount_0f7a4 (n : Nat) (v0 : Nat) (s : Nat) : Option (Nat × Nat) :=
  eGb (Nat.ble v0 4294967295) (eLi (eSub v0 (Nat.land (Nat.shiftRight v0 1) 1431655765)) fun x1 => eGb (Nat.ble x1 4294967295) (eLi (eAdd (Nat.land x1 858993459) (Nat.land (Nat.shiftRight x1 2) 858993459)) fun x2 => eGb (Nat.ble x2 4294967295) (eLi (Nat.land (eAdd x2 (Nat.shiftRight x2 4)) 252645135) fun x3 => eGb (Nat.ble x3 4294967295) (eLi (eAdd x3 (Nat.shiftRight x3 8)) fun x4 => eGb (Nat.ble x4 4294967295) (eLi (eAdd x4 (Nat.shiftRight x4 16)) fun x5 => eRt (Nat.land x5 63) s)))))
theorem s_J6_bitCount_0f7a4 (n : Nat) (v0 : Nat) (s : Nat) : eSim nI (m_J6_bitCount_0f7a4 n (nI v0) (cS s)) (e_J6_bitCount_0f7a4 n v0 s) := by
  unfold m_J6_bitCount_0f7a4 e_J6_bitCount_0f7a4
  exact sGi (fun hg => sLi (hSub rfl (hAnd (hShr 1 (1 : Int32) (by decide) rfl rfl hg) rfl)) (fun x1 => sGi (fun hg => sLi (hAdd (hAnd rfl rfl) (hAnd (hShr 2 (2 : Int32) (by decide) rfl rfl hg) rfl)) (fun x2 => sGi (fun hg => sLi (hAnd (hAdd rfl (hShr 4 (4 : Int32) (by decide) rfl rfl hg)) rfl) (fun x3 => sGi (fun hg => sLi (hAdd rfl (hShr 8 (8 : Int32) (by decide) rfl rfl hg)) (fun x4 => sGi (fun hg => sLi (hAdd rfl (hShr 16 (16 : Int32) (by decide) rfl rfl hg)) (fun x5 => sRt (hAnd rfl rfl) rfl))))))))))
def e_X6_plain (n : Nat) (v1 : Nat) (s : Nat) : Option (Nat × Nat) :=
  eBd (e_X5_first n v1 s) fun x1 s2 => eBd (e_X6_of n x1 s2) fun x3 s4 => eBd (e_X5_second n v1 s4) fun x5 s6 => eBd (e_X5_kind n v1 s6) fun x7 s8 => cond (eEq x7 1) (eBd (e_X6_of n x5 s8) fun x10 s11 => eRt (cond (eLt 1000000000 (eAdd x3 x10)) 1000000000 (eAdd x3 x10)) s11) (cond (eEq x7 2) (eBd (e_X6_of n x5 s8) fun x13 s14 => eRt (cond (eLt (eSub x3 x13) 0) 0 (eSub x3 x13)) s14) (cond (eEq x7 3) (eBd (e_X7_thousandths n x3 x5 s8) fun x16 s17 => eRt x16 s17) (cond (eEq x7 4) (eBd (e_X6_of n x5 s8) fun x19 s20 => eRt (cond (eLt x19 x3) x19 x3) s20) (cond (eEq x7 5) (eBd (e_X6_of n x5 s8) fun x22 s23 => eRt (cond (eLt x3 x22) x22 x3) s23) (cond (eEq x7 6) (eBd (e_X1_tax n x3 s8) fun x25 s26 => eRt x25 s26) (cond (eEq x7 7) (eBd (e_X0_total n s8) fun x28 s29 => eRt (cond (eLt x28 x3) x28 x3) s29) (cond (eEq x7 8) (eBd (e_X6_of n x5 s8) fun x31 s32 => eRt (cond (eLt x31 x3) x31 x3) s32) (cond (eEq v1 (eGet s8 21 5)) (eBd (e_X5_given n v1 s8) fun x36 s37 => eRt (eAdd x36 1) s37) (eBd (e_X5_given n v1 s8) fun x34 s35 => eRt x34 s35)))))))))
theorem s_X6_plain (n : Nat) (v1 : Nat) (s : Nat) : eSim nI (m_X6_plain n (nI v1) (cS s)) (e_X6_plain n v1 s) := by
  unfold m_X6_plain e_X6_plain
  exact sBd (s_X5_first n v1 s) (fun x1 s2 => sBd (s_X6_of n x1 s2) (fun x3 s4 => sBd (s_X5_second n v1 s4) (fun x5 s6 => sBd (s_X5_kind n v1 s6) (fun x7 s8 => sIf (hEq rfl rfl) (sBd (s_X6_of n x5 s8) (fun x10 s11 => sRt (hIte (hLt rfl (hAdd rfl rfl)) rfl (hAdd rfl rfl)) rfl)) (sIf (hEq rfl rfl) (sBd (s_X6_of n x5 s8) (fun x13 s14 => sRt (hIte (hLt (hSub rfl rfl) rfl) rfl (hSub rfl rfl)) rfl)) (sIf (hEq rfl rfl) (sBd (s_X7_thousandths n x3 x5 s8) (fun x16 s17 => sRt rfl rfl)) (sIf (hEq rfl rfl) (sBd (s_X6_of n x5 s8) (fun x19 s20 => sRt (hIte (hLt rfl rfl) rfl rfl) rfl)) (sIf (hEq rfl rfl) (sBd (s_X6_of n x5 s8) (fun x22 s23 => sRt (hIte (hLt rfl rfl) rfl rfl) rfl)) (sIf (hEq rfl rfl) (sBd (s_X1_tax n x3 s8) (fun x25 s26 => sRt rfl rfl)) (sIf (hEq rfl rfl) (sBd (s_X0_total n s8) (fun x28 s29 => sRt (hIte (hLt rfl rfl) rfl rfl) rfl)) (sIf (hEq rfl rfl) (sBd (s_X6_of n x5 s8) (fun x31 s32 => sRt (hIte (hLt rfl rfl) rfl rfl) rfl)) (sIf (hEq rfl (hGet rfl (by decide))) (sBd (s_X5_given n v1 s8) (fun x36 s37 => sRt (hAdd rfl rfl) rfl)) (sBd (s_X5_given n v1 s8) (fun x34 s35 => sRt rfl rfl))))))))))))))
def e_X6_suppose_j38 (n : Nat) : Nat → Nat → Nat → Nat → Option (Nat × Nat)
  | 0, _, _, _ => none
  | f + 1, v4, v5, s =>
    cond (eLe v4 v5) (eRt 0 s) (eBd (e_X4_lineAt n v5 s) fun x2 s3 => eBd (e_X6_plain n x2 s3) fun x4 s5 => eBd (e_X7_put n 22 16 x2 x4 s5) fun x6 s7 => eLi (eAdd v5 1) fun x8 => e_X6_suppose_j38 n f v4 x8 s7)
theorem s_X6_suppose_j38 (n : Nat) : ∀ f v4 v5 s, eSim nI (m_X6_suppose_j38 n f (nI v4) (nI v5) (cS s)) (e_X6_suppose_j38 n f v4 v5 s) := by
  intro f
  induction f with
  | zero => intro v4 v5 s; exact sNo
  | succ f ih =>
    intro v4 v5 s
    rw [m_X6_suppose_j38, e_X6_suppose_j38]
    exact sIf (hLe rfl rfl) (sRt rfl rfl) (sBd (s_X4_lineAt n v5 s) (fun x2 s3 => sBd (s_X6_plain n x2 s3) (fun x4 s5 => sBd (s_X7_put n 22 16 (by decide) x2 x4 s5) (fun x6 s7 => sLi (hAdd rfl rfl) (fun x8 => (ih v4 x8 s7))))))
def e_X6_suppose (n : Nat) (v1 : Nat) (v2 : Nat) (s : Nat) : Option (Nat × Nat) :=
  eBd (e_X4_lineAt n v1 s) fun x9 s10 => eBd (e_X7_put n 22 16 x9 v2 s10) fun x11 s12 => eBd (e_X4_groupOf n x9 s12) fun x13 s14 => eBd (e_J6_bitCount_0f7a4 n x13 s14) fun x15 s16 => eLi (eAdd v1 x15) fun x17 => eLi (eAdd v1 1) fun x18 => e_X6_suppose_j38 n n x17 x18 s16
theorem s_X6_suppose (n : Nat) (v1 : Nat) (v2 : Nat) (s : Nat) : eSim nI (m_X6_suppose n (nI v1) (nI v2) (cS s)) (e_X6_suppose n v1 v2 s) := by
  unfold m_X6_suppose e_X6_suppose
  exact sBd (s_X4_lineAt n v1 s) (fun x9 s10 => sBd (s_X7_put n 22 16 (by decide) x9 v2 s10) (fun x11 s12 => sBd (s_X4_groupOf n x9 s12) (fun x13 s14 => sBd (s_J6_bitCount_0f7a4 n x13 s14) (fun x15 s16 => sLi (hAdd rfl rfl) (fun x17 => sLi (hAdd rfl rfl) (fun x18 => (s_X6_suppose_j38 n n x17 x18 s16)))))))
def e_X6_greatest_j28 (n : Nat) : Nat → Nat → Nat → Nat → Nat → Nat → Nat → Option (Nat × Nat)
  | 0, _, _, _, _, _, _ => none
  | f + 1, v1, v2, v3, v4, v5, s =>
    cond (eLe 31 v5) (eRt v3 s) (cond (eLe v4 v3) (eRt v3 s) (eGb (Nat.ble (eAdd (eSub v4 v3) 1) 2147483647) (eLi (eAdd v3 (eDiv2 (eAdd (eSub v4 v3) 1))) fun x3 => eBd (e_X6_suppose n v1 x3 s) fun x4 s5 => eBd (e_X5_second n v2 s5) fun x6 s7 => eBd (e_X6_of n x6 s7) fun x8 s9 => cond (eLt x8 x3) (eLi (eSub x3 1) fun x11 => eLi (eAdd v5 1) fun x12 => e_X6_greatest_j28 n f v1 v2 v3 x11 x12 s9) (eLi (eAdd v5 1) fun x13 => e_X6_greatest_j28 n f v1 v2 x3 v4 x13 s9))))
theorem s_X6_greatest_j28 (n : Nat) : ∀ f v1 v2 v3 v4 v5 s, eSim nI (m_X6_greatest_j28 n f (nI v1) (nI v2) (nI v3) (nI v4) (nI v5) (cS s)) (e_X6_greatest_j28 n f v1 v2 v3 v4 v5 s) := by
  intro f
  induction f with
  | zero => intro v1 v2 v3 v4 v5 s; exact sNo
  | succ f ih =>
    intro v1 v2 v3 v4 v5 s
    rw [m_X6_greatest_j28, e_X6_greatest_j28]
    exact sIf (hLe rfl rfl) (sRt rfl rfl) (sIf (hLe rfl rfl) (sRt rfl rfl) (sGi (fun hg => sLi (hAdd rfl (hDiv2 (hAdd (hSub rfl rfl) rfl) hg)) (fun x3 => sBd (s_X6_suppose n v1 x3 s) (fun x4 s5 => sBd (s_X5_second n v2 s5) (fun x6 s7 => sBd (s_X6_of n x6 s7) (fun x8 s9 => sIf (hLt rfl rfl) (sLi (hSub rfl rfl) (fun x11 => sLi (hAdd rfl rfl) (fun x12 => (ih v1 v2 v3 x11 x12 s9)))) (sLi (hAdd rfl rfl) (fun x13 => (ih v1 v2 x3 v4 x13 s9))))))))))
def e_X6_greatest (n : Nat) (v1 : Nat) (s : Nat) : Option (Nat × Nat) :=
  eBd (e_X4_lineAt n v1 s) fun x14 s15 => eBd (e_X5_first n x14 s15) fun x16 s17 => eBd (e_X6_of n x16 s17) fun x18 s19 => e_X6_greatest_j28 n n v1 x14 0 x18 0 s19
theorem s_X6_greatest (n : Nat) (v1 : Nat) (s : Nat) : eSim nI (m_X6_greatest n (nI v1) (cS s)) (e_X6_greatest n v1 s) := by
  unfold m_X6_greatest e_X6_greatest
  exact sBd (s_X4_lineAt n v1 s) (fun x14 s15 => sBd (s_X5_first n x14 s15) (fun x16 s17 => sBd (s_X6_of n x16 s17) (fun x18 s19 => (s_X6_greatest_j28 n n v1 x14 0 x18 0 s19))))
def e_X6_workOut_j51 (rec7' : Nat → Nat → Option (Nat × Nat)) (n : Nat) (v2 : Nat) (v3 : Nat) (t0 : Nat) (s : Nat) : Option (Nat × Nat) :=
  cond (eEq t0 0) (eBd (e_X6_plain n v3 s) fun x2 s3 => eBd (e_X7_put n 22 16 v3 x2 s3) fun x4 s5 => eLi (eAdd v2 1) fun x6 => rec7' x6 s5) (eBd (e_X6_greatest n v2 s) fun x7 s8 => eBd (e_X7_put n 22 16 v3 x7 s8) fun x9 s10 => eLi (eAdd v2 1) fun x11 => rec7' x11 s10)
theorem s_X6_workOut_j51 {rec7 : Int32 → zS → Option (Int32 × zS)} {rec7' : Nat → Nat → Option (Nat × Nat)} (hrec7 : ∀ a0 S, eSim nI (rec7 (nI a0) (cS S)) (rec7' a0 S)) (n : Nat) (v2 : Nat) (v3 : Nat) (t0 : Nat) (s : Nat) : eSim nI (m_X6_workOut_j51 rec7 n (nI v2) (nI v3) (nI t0) (cS s)) (e_X6_workOut_j51 rec7' n v2 v3 t0 s) := by
  unfold m_X6_workOut_j51 e_X6_workOut_j51
  exact sIf (hEq rfl rfl) (sBd (s_X6_plain n v3 s) (fun x2 s3 => sBd (s_X7_put n 22 16 (by decide) v3 x2 s3) (fun x4 s5 => sLi (hAdd rfl rfl) (fun x6 => (hrec7 x6 s5))))) (sBd (s_X6_greatest n v2 s) (fun x7 s8 => sBd (s_X7_put n 22 16 (by decide) v3 x7 s8) (fun x9 s10 => sLi (hAdd rfl rfl) (fun x11 => (hrec7 x11 s10)))))
def e_X6_workOut_j7 (n : Nat) : Nat → Nat → Nat → Option (Nat × Nat)
  | 0, _, _ => none
  | f + 1, v2, s =>
    cond (eLe 16 v2) (eRt 0 s) (eBd (e_X4_lineAt n v2 s) fun x13 s14 => eBd (e_X5_kind n x13 s14) fun x15 s16 => cond (eEq x15 8) (eBd (e_X4_isCircular n x13 s16) fun x18 s19 => cond (eEq x18 0) (e_X6_workOut_j51 (e_X6_workOut_j7 n f) n v2 x13 0 s19) (e_X6_workOut_j51 (e_X6_workOut_j7 n f) n v2 x13 1 s19)) (e_X6_workOut_j51 (e_X6_workOut_j7 n f) n v2 x13 0 s16))
theorem s_X6_workOut_j7 (n : Nat) : ∀ f v2 s, eSim nI (m_X6_workOut_j7 n f (nI v2) (cS s)) (e_X6_workOut_j7 n f v2 s) := by
  intro f
  induction f with
  | zero => intro v2 s; exact sNo
  | succ f ih =>
    intro v2 s
    rw [m_X6_workOut_j7, e_X6_workOut_j7]
    exact sIf (hLe rfl rfl) (sRt rfl rfl) (sBd (s_X4_lineAt n v2 s) (fun x13 s14 => sBd (s_X5_kind n x13 s14) (fun x15 s16 => sIf (hEq rfl rfl) (sBd (s_X4_isCircular n x13 s16) (fun x18 s19 => sIf (hEq rfl rfl) ((s_X6_workOut_j51 ih n v2 x13 0 s19)) ((s_X6_workOut_j51 ih n v2 x13 1 s19)))) ((s_X6_workOut_j51 ih n v2 x13 0 s16)))))
def e_X6_workOut (n : Nat) (v1 : Nat) (s : Nat) : Option (Nat × Nat) :=
  eLi (eSet s 21 5 v1) fun s21 => e_X6_workOut_j7 n n 0 s21
theorem s_X6_workOut (n : Nat) (v1 : Nat) (s : Nat) : eSim nI (m_X6_workOut n (nI v1) (cS s)) (e_X6_workOut n v1 s) := by
  unfold m_X6_workOut e_X6_workOut
  exact sLs (hSet rfl (by decide) rfl) (fun s21 => (s_X6_workOut_j7 n n 0 s21))
def e_X7_isWithin (n : Nat) (v0 : Nat) (v1 : Nat) (v2 : Nat) (s : Nat) : Option (Nat × Nat) :=
  cond (eLt v0 v1) (eRt 0 s) (cond (eLt v2 v0) (eRt 0 s) (eRt 1 s))
theorem s_X7_isWithin (n : Nat) (v0 : Nat) (v1 : Nat) (v2 : Nat) (s : Nat) : eSim nI (m_X7_isWithin n (nI v0) (nI v1) (nI v2) (cS s)) (e_X7_isWithin n v0 v1 v2 s) := by
  unfold m_X7_isWithin e_X7_isWithin
  exact sIf (hLt rfl rfl) (sRt rfl rfl) (sIf (hLt rfl rfl) (sRt rfl rfl) (sRt rfl rfl))
def e_X7_checkPlace (n : Nat) (v0 : Nat) (s : Nat) : Option ((Nat ⊕ Nat) × Nat) :=
  cond (eEq v0 0) (eTx 1 s) (eRx 0 s)
theorem s_X7_checkPlace (n : Nat) (v0 : Nat) (s : Nat) : eSim cR (m_X7_checkPlace n (nI v0) (cS s)) (e_X7_checkPlace n v0 s) := by
  unfold m_X7_checkPlace e_X7_checkPlace
  exact sIf (hEq rfl rfl) (sTx rfl) (sRx rfl rfl)
def e_X7_checkLine (n : Nat) (v0 : Nat) (s : Nat) : Option ((Nat ⊕ Nat) × Nat) :=
  eBd (e_X7_isWithin n v0 0 15 s) fun x1 s2 => eBx (e_X7_checkPlace n x1 s2) fun x3 s4 => eRx 0 s4
theorem s_X7_checkLine (n : Nat) (v0 : Nat) (s : Nat) : eSim cR (m_X7_checkLine n (nI v0) (cS s)) (e_X7_checkLine n v0 s) := by
  unfold m_X7_checkLine e_X7_checkLine
  exact sBd (s_X7_isWithin n v0 0 15 s) (fun x1 s2 => sBx (s_X7_checkPlace n x1 s2) (fun x3 s4 => sRx rfl rfl))
def e_X7_checkArgument (n : Nat) (v0 : Nat) (s : Nat) : Option ((Nat ⊕ Nat) × Nat) :=
  cond (eEq v0 0) (eTx 2 s) (eRx 0 s)
theorem s_X7_checkArgument (n : Nat) (v0 : Nat) (s : Nat) : eSim cR (m_X7_checkArgument n (nI v0) (cS s)) (e_X7_checkArgument n v0 s) := by
  unfold m_X7_checkArgument e_X7_checkArgument
  exact sIf (hEq rfl rfl) (sTx rfl) (sRx rfl rfl)
def e_X7_define_j73 (n : Nat) (v1 : Nat) (v2 : Nat) (v3 : Nat) (v4 : Nat) (t0 : Nat) (s : Nat) : Option ((Nat ⊕ Nat) × Nat) :=
  eBx (e_X7_checkArgument n t0 s) fun x1 s2 => eBd (e_X5_kind n v1 s2) fun x3 s4 => eBd (e_X5_first n v1 s4) fun x5 s6 => eBd (e_X5_second n v1 s6) fun x7 s8 => eBd (e_X5_set n v1 v2 v3 v4 s8) fun x9 s10 => eBd (e_X4_make n s10) fun x11 s12 => cond (eEq x11 0) (eBd (e_X5_set n v1 x3 x5 x7 s12) fun x14 s15 => eBd (e_X4_make n s15) fun x16 s17 => eTx 3 s17) (eRx 0 s12)
theorem s_X7_define_j73 (n : Nat) (v1 : Nat) (v2 : Nat) (v3 : Nat) (v4 : Nat) (t0 : Nat) (s : Nat) : eSim cR (m_X7_define_j73 n (nI v1) (nI v2) (nI v3) (nI v4) (nI t0) (cS s)) (e_X7_define_j73 n v1 v2 v3 v4 t0 s) := by
  unfold m_X7_define_j73 e_X7_define_j73
  exact sBx (s_X7_checkArgument n t0 s) (fun x1 s2 => sBd (s_X5_kind n v1 s2) (fun x3 s4 => sBd (s_X5_first n v1 s4) (fun x5 s6 => sBd (s_X5_second n v1 s6) (fun x7 s8 => sBd (s_X5_set n v1 v2 v3 v4 s8) (fun x9 s10 => sBd (s_X4_make n s10) (fun x11 s12 => sIf (hEq rfl rfl) (sBd (s_X5_set n v1 x3 x5 x7 s12) (fun x14 s15 => sBd (s_X4_make n s15) (fun x16 s17 => sTx rfl))) (sRx rfl rfl)))))))
def e_X7_define_j46 (n : Nat) (v1 : Nat) (v2 : Nat) (v3 : Nat) (v4 : Nat) (v5 : Nat) (s : Nat) : Option ((Nat ⊕ Nat) × Nat) :=
  cond (eEq v5 0) (e_X7_define_j73 n v1 v2 v3 v4 0 s) (cond (eEq v2 3) (eBd (e_X7_isWithin n v4 0 1000 s) fun x20 s21 => cond (eEq x20 0) (e_X7_define_j73 n v1 v2 v3 v4 0 s21) (e_X7_define_j73 n v1 v2 v3 v4 1 s21)) (e_X7_define_j73 n v1 v2 v3 v4 1 s))
theorem s_X7_define_j46 (n : Nat) (v1 : Nat) (v2 : Nat) (v3 : Nat) (v4 : Nat) (v5 : Nat) (s : Nat) : eSim cR (m_X7_define_j46 n (nI v1) (nI v2) (nI v3) (nI v4) (nI v5) (cS s)) (e_X7_define_j46 n v1 v2 v3 v4 v5 s) := by
  unfold m_X7_define_j46 e_X7_define_j46
  exact sIf (hEq rfl rfl) ((s_X7_define_j73 n v1 v2 v3 v4 0 s)) (sIf (hEq rfl rfl) (sBd (s_X7_isWithin n v4 0 1000 s) (fun x20 s21 => sIf (hEq rfl rfl) ((s_X7_define_j73 n v1 v2 v3 v4 0 s21)) ((s_X7_define_j73 n v1 v2 v3 v4 1 s21)))) ((s_X7_define_j73 n v1 v2 v3 v4 1 s)))
def e_X7_define_j29 (n : Nat) (v1 : Nat) (v2 : Nat) (v3 : Nat) (v4 : Nat) (v5 : Nat) (s : Nat) : Option ((Nat ⊕ Nat) × Nat) :=
  cond (eEq v5 0) (e_X7_define_j46 n v1 v2 v3 v4 v5 s) (eBd (e_X7_takesSecond n v2 s) fun x24 s25 => cond (eEq x24 0) (e_X7_define_j46 n v1 v2 v3 v4 v5 s25) (eBx (e_X7_checkLine n v4 s25) fun x27 s28 => e_X7_define_j46 n v1 v2 v3 v4 v5 s28))
theorem s_X7_define_j29 (n : Nat) (v1 : Nat) (v2 : Nat) (v3 : Nat) (v4 : Nat) (v5 : Nat) (s : Nat) : eSim cR (m_X7_define_j29 n (nI v1) (nI v2) (nI v3) (nI v4) (nI v5) (cS s)) (e_X7_define_j29 n v1 v2 v3 v4 v5 s) := by
  unfold m_X7_define_j29 e_X7_define_j29
  exact sIf (hEq rfl rfl) ((s_X7_define_j46 n v1 v2 v3 v4 v5 s)) (sBd (s_X7_takesSecond n v2 s) (fun x24 s25 => sIf (hEq rfl rfl) ((s_X7_define_j46 n v1 v2 v3 v4 v5 s25)) (sBx (s_X7_checkLine n v4 s25) (fun x27 s28 => (s_X7_define_j46 n v1 v2 v3 v4 v5 s28)))))
def e_X7_define (n : Nat) (v1 : Nat) (v2 : Nat) (v3 : Nat) (v4 : Nat) (s : Nat) : Option ((Nat ⊕ Nat) × Nat) :=
  eBx (e_X7_checkLine n v1 s) fun x29 s30 => eBd (e_X7_isWithin n v2 0 8 s30) fun x31 s32 => cond (eEq x31 0) (e_X7_define_j29 n v1 v2 v3 v4 x31 s32) (eBd (e_X7_takesFirst n v2 s32) fun x34 s35 => cond (eEq x34 0) (e_X7_define_j29 n v1 v2 v3 v4 x31 s35) (eBx (e_X7_checkLine n v3 s35) fun x37 s38 => e_X7_define_j29 n v1 v2 v3 v4 x31 s38))
theorem s_X7_define (n : Nat) (v1 : Nat) (v2 : Nat) (v3 : Nat) (v4 : Nat) (s : Nat) : eSim cR (m_X7_define n (nI v1) (nI v2) (nI v3) (nI v4) (cS s)) (e_X7_define n v1 v2 v3 v4 s) := by
  unfold m_X7_define e_X7_define
  exact sBx (s_X7_checkLine n v1 s) (fun x29 s30 => sBd (s_X7_isWithin n v2 0 8 s30) (fun x31 s32 => sIf (hEq rfl rfl) ((s_X7_define_j29 n v1 v2 v3 v4 x31 s32)) (sBd (s_X7_takesFirst n v2 s32) (fun x34 s35 => sIf (hEq rfl rfl) ((s_X7_define_j29 n v1 v2 v3 v4 x31 s35)) (sBx (s_X7_checkLine n v3 s35) (fun x37 s38 => (s_X7_define_j29 n v1 v2 v3 v4 x31 s38)))))))
def e_X7_answer (n : Nat) (v1 : Nat) (v2 : Nat) (s : Nat) : Option ((Nat ⊕ Nat) × Nat) :=
  eBx (e_X7_checkLine n v1 s) fun x1 s2 => eBd (e_X7_isWithin n v2 0 1000000 s2) fun x3 s4 => eBx (e_X7_checkArgument n x3 s4) fun x5 s6 => eBd (e_X5_given n v1 s6) fun x7 s8 => eBd (e_X5_give n v1 v2 s8) fun x9 s10 => eRx x7 s10
theorem s_X7_answer (n : Nat) (v1 : Nat) (v2 : Nat) (s : Nat) : eSim cR (m_X7_answer n (nI v1) (nI v2) (cS s)) (e_X7_answer n v1 v2 s) := by
  unfold m_X7_answer e_X7_answer
  exact sBx (s_X7_checkLine n v1 s) (fun x1 s2 => sBd (s_X7_isWithin n v2 0 1000000 s2) (fun x3 s4 => sBx (s_X7_checkArgument n x3 s4) (fun x5 s6 => sBd (s_X5_given n v1 s6) (fun x7 s8 => sBd (s_X5_give n v1 v2 s8) (fun x9 s10 => sRx rfl rfl)))))
def e_X7_kindOf (n : Nat) (v1 : Nat) (s : Nat) : Option ((Nat ⊕ Nat) × Nat) :=
  eBx (e_X7_checkLine n v1 s) fun x1 s2 => eBd (e_X5_kind n v1 s2) fun x3 s4 => eRx x3 s4
theorem s_X7_kindOf (n : Nat) (v1 : Nat) (s : Nat) : eSim cR (m_X7_kindOf n (nI v1) (cS s)) (e_X7_kindOf n v1 s) := by
  unfold m_X7_kindOf e_X7_kindOf
  exact sBx (s_X7_checkLine n v1 s) (fun x1 s2 => sBd (s_X5_kind n v1 s2) (fun x3 s4 => sRx rfl rfl))
def e_X7_value (n : Nat) (v1 : Nat) (s : Nat) : Option ((Nat ⊕ Nat) × Nat) :=
  eBx (e_X7_checkLine n v1 s) fun x1 s2 => eBd (e_X6_workOut n 4294967295 s2) fun x3 s4 => eBd (e_X6_of n v1 s4) fun x5 s6 => eRx x5 s6
theorem s_X7_value (n : Nat) (v1 : Nat) (s : Nat) : eSim cR (m_X7_value n (nI v1) (cS s)) (e_X7_value n v1 s) := by
  unfold m_X7_value e_X7_value
  exact sBx (s_X7_checkLine n v1 s) (fun x1 s2 => sBd (by rw [show (-1 : Int32) = nI 4294967295 from by decide]; exact s_X6_workOut n 4294967295 s2) (fun x3 s4 => sBd (s_X6_of n v1 s4) (fun x5 s6 => sRx rfl rfl)))
def e_X7_checkState (n : Nat) (v0 : Nat) (s : Nat) : Option ((Nat ⊕ Nat) × Nat) :=
  cond (eEq v0 0) (eTx 3 s) (eRx 0 s)
theorem s_X7_checkState (n : Nat) (v0 : Nat) (s : Nat) : eSim cR (m_X7_checkState n (nI v0) (cS s)) (e_X7_checkState n v0 s) := by
  unfold m_X7_checkState e_X7_checkState
  exact sIf (hEq rfl rfl) (sTx rfl) (sRx rfl rfl)
def e_X7_boundFor_j32 (n : Nat) (v1 : Nat) (v2 : Nat) (t0 : Nat) (s : Nat) : Option ((Nat ⊕ Nat) × Nat) :=
  eBx (e_X7_checkState n t0 s) fun x1 s2 => eBd (e_X6_workOut n 4294967295 s2) fun x3 s4 => eBd (e_X4_placeOf n v1 s4) fun x5 s6 => eBd (e_X6_suppose n x5 v2 s6) fun x7 s8 => eBd (e_X5_second n v1 s8) fun x9 s10 => eBd (e_X6_of n x9 s10) fun x11 s12 => eRx x11 s12
theorem s_X7_boundFor_j32 (n : Nat) (v1 : Nat) (v2 : Nat) (t0 : Nat) (s : Nat) : eSim cR (m_X7_boundFor_j32 n (nI v1) (nI v2) (nI t0) (cS s)) (e_X7_boundFor_j32 n v1 v2 t0 s) := by
  unfold m_X7_boundFor_j32 e_X7_boundFor_j32
  exact sBx (s_X7_checkState n t0 s) (fun x1 s2 => sBd (by rw [show (-1 : Int32) = nI 4294967295 from by decide]; exact s_X6_workOut n 4294967295 s2) (fun x3 s4 => sBd (s_X4_placeOf n v1 s4) (fun x5 s6 => sBd (s_X6_suppose n x5 v2 s6) (fun x7 s8 => sBd (s_X5_second n v1 s8) (fun x9 s10 => sBd (s_X6_of n x9 s10) (fun x11 s12 => sRx rfl rfl))))))
def e_X7_boundFor (n : Nat) (v1 : Nat) (v2 : Nat) (s : Nat) : Option ((Nat ⊕ Nat) × Nat) :=
  eBx (e_X7_checkLine n v1 s) fun x13 s14 => eBd (e_X7_isWithin n v2 0 1000000000 s14) fun x15 s16 => eBx (e_X7_checkArgument n x15 s16) fun x17 s18 => eBd (e_X5_kind n v1 s18) fun x19 s20 => cond (eEq x19 8) (e_X7_boundFor_j32 n v1 v2 1 s20) (e_X7_boundFor_j32 n v1 v2 0 s20)
theorem s_X7_boundFor (n : Nat) (v1 : Nat) (v2 : Nat) (s : Nat) : eSim cR (m_X7_boundFor n (nI v1) (nI v2) (cS s)) (e_X7_boundFor n v1 v2 s) := by
  unfold m_X7_boundFor e_X7_boundFor
  exact sBx (s_X7_checkLine n v1 s) (fun x13 s14 => sBd (s_X7_isWithin n v2 0 1000000000 s14) (fun x15 s16 => sBx (s_X7_checkArgument n x15 s16) (fun x17 s18 => sBd (s_X5_kind n v1 s18) (fun x19 s20 => sIf (hEq rfl rfl) ((s_X7_boundFor_j32 n v1 v2 1 s20)) ((s_X7_boundFor_j32 n v1 v2 0 s20))))))
def e_X7_dependsOn (n : Nat) (v1 : Nat) (v2 : Nat) (s : Nat) : Option ((Nat ⊕ Nat) × Nat) :=
  eBx (e_X7_checkLine n v1 s) fun x1 s2 => eBx (e_X7_checkLine n v2 s2) fun x3 s4 => eBd (e_X4_reach n v1 s4) fun x5 s6 => eBd (e_X7_has n x5 v2 s6) fun x7 s8 => eGb (Nat.ble x7 1) (eRx x7 s8)
theorem s_X7_dependsOn (n : Nat) (v1 : Nat) (v2 : Nat) (s : Nat) : eSim cR (m_X7_dependsOn n (nI v1) (nI v2) (cS s)) (e_X7_dependsOn n v1 v2 s) := by
  unfold m_X7_dependsOn e_X7_dependsOn
  exact sBx (s_X7_checkLine n v1 s) (fun x1 s2 => sBx (s_X7_checkLine n v2 s2) (fun x3 s4 => sBd (s_X4_reach n v1 s4) (fun x5 s6 => sBd (s_X7_has n x5 v2 s6) (fun x7 s8 => sGb rfl (sRx rfl rfl)))))
def e_X6b_of (n : Nat) (v1 : Nat) (s : Nat) : Option (Nat × Nat) :=
  eBd (e_X7_at n 24 16 v1 s) fun x1 s2 => eRt x1 s2
theorem s_X6b_of (n : Nat) (v1 : Nat) (s : Nat) : eSim nI (m_X6b_of n (nI v1) (cS s)) (e_X6b_of n v1 s) := by
  unfold m_X6b_of e_X6b_of
  exact sBd (s_X7_at n 24 16 (by decide) v1 s) (fun x1 s2 => sRt rfl rfl)
def e_X6b_plain (n : Nat) (v1 : Nat) (s : Nat) : Option (Nat × Nat) :=
  eBd (e_X5_first n v1 s) fun x1 s2 => eBd (e_X6b_of n x1 s2) fun x3 s4 => eBd (e_X5_second n v1 s4) fun x5 s6 => eBd (e_X5_kind n v1 s6) fun x7 s8 => cond (eEq x7 1) (eBd (e_X6b_of n x5 s8) fun x10 s11 => eRt (cond (eLt 1000000000 (eAdd x3 x10)) 1000000000 (eAdd x3 x10)) s11) (cond (eEq x7 2) (eBd (e_X6b_of n x5 s8) fun x13 s14 => eRt (cond (eLt (eSub x3 x13) 0) 0 (eSub x3 x13)) s14) (cond (eEq x7 3) (eBd (e_X7_thousandths n x3 x5 s8) fun x16 s17 => eRt x16 s17) (cond (eEq x7 4) (eBd (e_X6b_of n x5 s8) fun x19 s20 => eRt (cond (eLt x19 x3) x19 x3) s20) (cond (eEq x7 5) (eBd (e_X6b_of n x5 s8) fun x22 s23 => eRt (cond (eLt x3 x22) x22 x3) s23) (cond (eEq x7 6) (eBd (e_X1_tax n x3 s8) fun x25 s26 => eRt x25 s26) (cond (eEq x7 7) (eBd (e_X0_total n s8) fun x28 s29 => eRt (cond (eLt x28 x3) x28 x3) s29) (cond (eEq x7 8) (eBd (e_X6b_of n x5 s8) fun x31 s32 => eRt (cond (eLt x31 x3) x31 x3) s32) (cond (eEq v1 (eGet s8 23 5)) (eBd (e_X5_given n v1 s8) fun x36 s37 => eRt (eAdd x36 1) s37) (eBd (e_X5_given n v1 s8) fun x34 s35 => eRt x34 s35)))))))))
theorem s_X6b_plain (n : Nat) (v1 : Nat) (s : Nat) : eSim nI (m_X6b_plain n (nI v1) (cS s)) (e_X6b_plain n v1 s) := by
  unfold m_X6b_plain e_X6b_plain
  exact sBd (s_X5_first n v1 s) (fun x1 s2 => sBd (s_X6b_of n x1 s2) (fun x3 s4 => sBd (s_X5_second n v1 s4) (fun x5 s6 => sBd (s_X5_kind n v1 s6) (fun x7 s8 => sIf (hEq rfl rfl) (sBd (s_X6b_of n x5 s8) (fun x10 s11 => sRt (hIte (hLt rfl (hAdd rfl rfl)) rfl (hAdd rfl rfl)) rfl)) (sIf (hEq rfl rfl) (sBd (s_X6b_of n x5 s8) (fun x13 s14 => sRt (hIte (hLt (hSub rfl rfl) rfl) rfl (hSub rfl rfl)) rfl)) (sIf (hEq rfl rfl) (sBd (s_X7_thousandths n x3 x5 s8) (fun x16 s17 => sRt rfl rfl)) (sIf (hEq rfl rfl) (sBd (s_X6b_of n x5 s8) (fun x19 s20 => sRt (hIte (hLt rfl rfl) rfl rfl) rfl)) (sIf (hEq rfl rfl) (sBd (s_X6b_of n x5 s8) (fun x22 s23 => sRt (hIte (hLt rfl rfl) rfl rfl) rfl)) (sIf (hEq rfl rfl) (sBd (s_X1_tax n x3 s8) (fun x25 s26 => sRt rfl rfl)) (sIf (hEq rfl rfl) (sBd (s_X0_total n s8) (fun x28 s29 => sRt (hIte (hLt rfl rfl) rfl rfl) rfl)) (sIf (hEq rfl rfl) (sBd (s_X6b_of n x5 s8) (fun x31 s32 => sRt (hIte (hLt rfl rfl) rfl rfl) rfl)) (sIf (hEq rfl (hGet rfl (by decide))) (sBd (s_X5_given n v1 s8) (fun x36 s37 => sRt (hAdd rfl rfl) rfl)) (sBd (s_X5_given n v1 s8) (fun x34 s35 => sRt rfl rfl))))))))))))))
def e_X6b_suppose_j38 (n : Nat) : Nat → Nat → Nat → Nat → Option (Nat × Nat)
  | 0, _, _, _ => none
  | f + 1, v4, v5, s =>
    cond (eLe v4 v5) (eRt 0 s) (eBd (e_X4_lineAt n v5 s) fun x2 s3 => eBd (e_X6b_plain n x2 s3) fun x4 s5 => eBd (e_X7_put n 24 16 x2 x4 s5) fun x6 s7 => eLi (eAdd v5 1) fun x8 => e_X6b_suppose_j38 n f v4 x8 s7)
theorem s_X6b_suppose_j38 (n : Nat) : ∀ f v4 v5 s, eSim nI (m_X6b_suppose_j38 n f (nI v4) (nI v5) (cS s)) (e_X6b_suppose_j38 n f v4 v5 s) := by
  intro f
  induction f with
  | zero => intro v4 v5 s; exact sNo
  | succ f ih =>
    intro v4 v5 s
    rw [m_X6b_suppose_j38, e_X6b_suppose_j38]
    exact sIf (hLe rfl rfl) (sRt rfl rfl) (sBd (s_X4_lineAt n v5 s) (fun x2 s3 => sBd (s_X6b_plain n x2 s3) (fun x4 s5 => sBd (s_X7_put n 24 16 (by decide) x2 x4 s5) (fun x6 s7 => sLi (hAdd rfl rfl) (fun x8 => (ih v4 x8 s7))))))
def e_X6b_suppose (n : Nat) (v1 : Nat) (v2 : Nat) (s : Nat) : Option (Nat × Nat) :=
  eBd (e_X4_lineAt n v1 s) fun x9 s10 => eBd (e_X7_put n 24 16 x9 v2 s10) fun x11 s12 => eBd (e_X4_groupOf n x9 s12) fun x13 s14 => eBd (e_J6_bitCount_0f7a4 n x13 s14) fun x15 s16 => eLi (eAdd v1 x15) fun x17 => eLi (eAdd v1 1) fun x18 => e_X6b_suppose_j38 n n x17 x18 s16
theorem s_X6b_suppose (n : Nat) (v1 : Nat) (v2 : Nat) (s : Nat) : eSim nI (m_X6b_suppose n (nI v1) (nI v2) (cS s)) (e_X6b_suppose n v1 v2 s) := by
  unfold m_X6b_suppose e_X6b_suppose
  exact sBd (s_X4_lineAt n v1 s) (fun x9 s10 => sBd (s_X7_put n 24 16 (by decide) x9 v2 s10) (fun x11 s12 => sBd (s_X4_groupOf n x9 s12) (fun x13 s14 => sBd (s_J6_bitCount_0f7a4 n x13 s14) (fun x15 s16 => sLi (hAdd rfl rfl) (fun x17 => sLi (hAdd rfl rfl) (fun x18 => (s_X6b_suppose_j38 n n x17 x18 s16)))))))
def e_X6b_greatest_j28 (n : Nat) : Nat → Nat → Nat → Nat → Nat → Nat → Nat → Option (Nat × Nat)
  | 0, _, _, _, _, _, _ => none
  | f + 1, v1, v2, v3, v4, v5, s =>
    cond (eLe 31 v5) (eRt v3 s) (cond (eLe v4 v3) (eRt v3 s) (eGb (Nat.ble (eAdd (eSub v4 v3) 1) 2147483647) (eLi (eAdd v3 (eDiv2 (eAdd (eSub v4 v3) 1))) fun x3 => eBd (e_X6b_suppose n v1 x3 s) fun x4 s5 => eBd (e_X5_second n v2 s5) fun x6 s7 => eBd (e_X6b_of n x6 s7) fun x8 s9 => cond (eLt x8 x3) (eLi (eSub x3 1) fun x11 => eLi (eAdd v5 1) fun x12 => e_X6b_greatest_j28 n f v1 v2 v3 x11 x12 s9) (eLi (eAdd v5 1) fun x13 => e_X6b_greatest_j28 n f v1 v2 x3 v4 x13 s9))))
theorem s_X6b_greatest_j28 (n : Nat) : ∀ f v1 v2 v3 v4 v5 s, eSim nI (m_X6b_greatest_j28 n f (nI v1) (nI v2) (nI v3) (nI v4) (nI v5) (cS s)) (e_X6b_greatest_j28 n f v1 v2 v3 v4 v5 s) := by
  intro f
  induction f with
  | zero => intro v1 v2 v3 v4 v5 s; exact sNo
  | succ f ih =>
    intro v1 v2 v3 v4 v5 s
    rw [m_X6b_greatest_j28, e_X6b_greatest_j28]
    exact sIf (hLe rfl rfl) (sRt rfl rfl) (sIf (hLe rfl rfl) (sRt rfl rfl) (sGi (fun hg => sLi (hAdd rfl (hDiv2 (hAdd (hSub rfl rfl) rfl) hg)) (fun x3 => sBd (s_X6b_suppose n v1 x3 s) (fun x4 s5 => sBd (s_X5_second n v2 s5) (fun x6 s7 => sBd (s_X6b_of n x6 s7) (fun x8 s9 => sIf (hLt rfl rfl) (sLi (hSub rfl rfl) (fun x11 => sLi (hAdd rfl rfl) (fun x12 => (ih v1 v2 v3 x11 x12 s9)))) (sLi (hAdd rfl rfl) (fun x13 => (ih v1 v2 x3 v4 x13 s9))))))))))
def e_X6b_greatest (n : Nat) (v1 : Nat) (s : Nat) : Option (Nat × Nat) :=
  eBd (e_X4_lineAt n v1 s) fun x14 s15 => eBd (e_X5_first n x14 s15) fun x16 s17 => eBd (e_X6b_of n x16 s17) fun x18 s19 => e_X6b_greatest_j28 n n v1 x14 0 x18 0 s19
theorem s_X6b_greatest (n : Nat) (v1 : Nat) (s : Nat) : eSim nI (m_X6b_greatest n (nI v1) (cS s)) (e_X6b_greatest n v1 s) := by
  unfold m_X6b_greatest e_X6b_greatest
  exact sBd (s_X4_lineAt n v1 s) (fun x14 s15 => sBd (s_X5_first n x14 s15) (fun x16 s17 => sBd (s_X6b_of n x16 s17) (fun x18 s19 => (s_X6b_greatest_j28 n n v1 x14 0 x18 0 s19))))
def e_X6b_workOut_j51 (rec7' : Nat → Nat → Option (Nat × Nat)) (n : Nat) (v2 : Nat) (v3 : Nat) (t0 : Nat) (s : Nat) : Option (Nat × Nat) :=
  cond (eEq t0 0) (eBd (e_X6b_plain n v3 s) fun x2 s3 => eBd (e_X7_put n 24 16 v3 x2 s3) fun x4 s5 => eLi (eAdd v2 1) fun x6 => rec7' x6 s5) (eBd (e_X6b_greatest n v2 s) fun x7 s8 => eBd (e_X7_put n 24 16 v3 x7 s8) fun x9 s10 => eLi (eAdd v2 1) fun x11 => rec7' x11 s10)
theorem s_X6b_workOut_j51 {rec7 : Int32 → zS → Option (Int32 × zS)} {rec7' : Nat → Nat → Option (Nat × Nat)} (hrec7 : ∀ a0 S, eSim nI (rec7 (nI a0) (cS S)) (rec7' a0 S)) (n : Nat) (v2 : Nat) (v3 : Nat) (t0 : Nat) (s : Nat) : eSim nI (m_X6b_workOut_j51 rec7 n (nI v2) (nI v3) (nI t0) (cS s)) (e_X6b_workOut_j51 rec7' n v2 v3 t0 s) := by
  unfold m_X6b_workOut_j51 e_X6b_workOut_j51
  exact sIf (hEq rfl rfl) (sBd (s_X6b_plain n v3 s) (fun x2 s3 => sBd (s_X7_put n 24 16 (by decide) v3 x2 s3) (fun x4 s5 => sLi (hAdd rfl rfl) (fun x6 => (hrec7 x6 s5))))) (sBd (s_X6b_greatest n v2 s) (fun x7 s8 => sBd (s_X7_put n 24 16 (by decide) v3 x7 s8) (fun x9 s10 => sLi (hAdd rfl rfl) (fun x11 => (hrec7 x11 s10)))))
def e_X6b_workOut_j7 (n : Nat) : Nat → Nat → Nat → Option (Nat × Nat)
  | 0, _, _ => none
  | f + 1, v2, s =>
    cond (eLe 16 v2) (eRt 0 s) (eBd (e_X4_lineAt n v2 s) fun x13 s14 => eBd (e_X5_kind n x13 s14) fun x15 s16 => cond (eEq x15 8) (eBd (e_X4_isCircular n x13 s16) fun x18 s19 => cond (eEq x18 0) (e_X6b_workOut_j51 (e_X6b_workOut_j7 n f) n v2 x13 0 s19) (e_X6b_workOut_j51 (e_X6b_workOut_j7 n f) n v2 x13 1 s19)) (e_X6b_workOut_j51 (e_X6b_workOut_j7 n f) n v2 x13 0 s16))
theorem s_X6b_workOut_j7 (n : Nat) : ∀ f v2 s, eSim nI (m_X6b_workOut_j7 n f (nI v2) (cS s)) (e_X6b_workOut_j7 n f v2 s) := by
  intro f
  induction f with
  | zero => intro v2 s; exact sNo
  | succ f ih =>
    intro v2 s
    rw [m_X6b_workOut_j7, e_X6b_workOut_j7]
    exact sIf (hLe rfl rfl) (sRt rfl rfl) (sBd (s_X4_lineAt n v2 s) (fun x13 s14 => sBd (s_X5_kind n x13 s14) (fun x15 s16 => sIf (hEq rfl rfl) (sBd (s_X4_isCircular n x13 s16) (fun x18 s19 => sIf (hEq rfl rfl) ((s_X6b_workOut_j51 ih n v2 x13 0 s19)) ((s_X6b_workOut_j51 ih n v2 x13 1 s19)))) ((s_X6b_workOut_j51 ih n v2 x13 0 s16)))))
def e_X6b_workOut (n : Nat) (v1 : Nat) (s : Nat) : Option (Nat × Nat) :=
  eLi (eSet s 23 5 v1) fun s21 => e_X6b_workOut_j7 n n 0 s21
theorem s_X6b_workOut (n : Nat) (v1 : Nat) (s : Nat) : eSim nI (m_X6b_workOut n (nI v1) (cS s)) (e_X6b_workOut n v1 s) := by
  unfold m_X6b_workOut e_X6b_workOut
  exact sLs (hSet rfl (by decide) rfl) (fun s21 => (s_X6b_workOut_j7 n n 0 s21))
def e_X7_influence_j37 (n : Nat) : Nat → Nat → Nat → Nat → Option ((Nat ⊕ Nat) × Nat)
  | 0, _, _, _ => none
  | f + 1, v2, v3, s =>
    cond (eLe 16 v3) (eRx v2 s) (eBd (e_X6_of n v3 s) fun x2 s3 => eBd (e_X6b_of n v3 s3) fun x4 s5 => cond (eEq x2 x4) (eLi (eAdd v3 1) fun x7 => e_X7_influence_j37 n f v2 x7 s5) (eLi (eAdd v2 1) fun x8 => eLi (eAdd v3 1) fun x9 => e_X7_influence_j37 n f x8 x9 s5))
theorem s_X7_influence_j37 (n : Nat) : ∀ f v2 v3 s, eSim cR (m_X7_influence_j37 n f (nI v2) (nI v3) (cS s)) (e_X7_influence_j37 n f v2 v3 s) := by
  intro f
  induction f with
  | zero => intro v2 v3 s; exact sNo
  | succ f ih =>
    intro v2 v3 s
    rw [m_X7_influence_j37, e_X7_influence_j37]
    exact sIf (hLe rfl rfl) (sRx rfl rfl) (sBd (s_X6_of n v3 s) (fun x2 s3 => sBd (s_X6b_of n v3 s3) (fun x4 s5 => sIf (hEq rfl rfl) (sLi (hAdd rfl rfl) (fun x7 => (ih v2 x7 s5))) (sLi (hAdd rfl rfl) (fun x8 => sLi (hAdd rfl rfl) (fun x9 => (ih x8 x9 s5)))))))
def e_X7_influence (n : Nat) (v1 : Nat) (s : Nat) : Option ((Nat ⊕ Nat) × Nat) :=
  eBx (e_X7_checkLine n v1 s) fun x10 s11 => eBd (e_X5_kind n v1 s11) fun x12 s13 => cond (eEq x12 0) (eBd (e_X6_workOut n 4294967295 s13) fun x15 s16 => eBd (e_X6b_workOut n v1 s16) fun x17 s18 => e_X7_influence_j37 n n 0 0 s18) (eRx 0 s13)
theorem s_X7_influence (n : Nat) (v1 : Nat) (s : Nat) : eSim cR (m_X7_influence n (nI v1) (cS s)) (e_X7_influence n v1 s) := by
  unfold m_X7_influence e_X7_influence
  exact sBx (s_X7_checkLine n v1 s) (fun x10 s11 => sBd (s_X5_kind n v1 s11) (fun x12 s13 => sIf (hEq rfl rfl) (sBd (by rw [show (-1 : Int32) = nI 4294967295 from by decide]; exact s_X6_workOut n 4294967295 s13) (fun x15 s16 => sBd (s_X6b_workOut n v1 s16) (fun x17 s18 => (s_X7_influence_j37 n n 0 0 s18)))) (sRx rfl rfl)))
def e_X7_why_j13 (n : Nat) (v1 : Nat) (v2 : Nat) (t0 : Nat) (s : Nat) : Option ((Nat ⊕ Nat) × Nat) :=
  eBx (e_X7_checkPlace n t0 s) fun x1 s2 => eBd (e_X6_workOut n 4294967295 s2) fun x3 s4 => eBd (e_X3_explain n v1 s4) fun x5 s6 => eBd (e_X3_lineAt n v2 s6) fun x7 s8 => eRx x7 s8
theorem s_X7_why_j13 (n : Nat) (v1 : Nat) (v2 : Nat) (t0 : Nat) (s : Nat) : eSim cR (m_X7_why_j13 n (nI v1) (nI v2) (nI t0) (cS s)) (e_X7_why_j13 n v1 v2 t0 s) := by
  unfold m_X7_why_j13 e_X7_why_j13
  exact sBx (s_X7_checkPlace n t0 s) (fun x1 s2 => sBd (by rw [show (-1 : Int32) = nI 4294967295 from by decide]; exact s_X6_workOut n 4294967295 s2) (fun x3 s4 => sBd (s_X3_explain n v1 s4) (fun x5 s6 => sBd (s_X3_lineAt n v2 s6) (fun x7 s8 => sRx rfl rfl))))
def e_X7_why (n : Nat) (v1 : Nat) (v2 : Nat) (s : Nat) : Option ((Nat ⊕ Nat) × Nat) :=
  eBx (e_X7_checkLine n v1 s) fun x9 s10 => cond (eLt v2 0) (e_X7_why_j13 n v1 v2 0 s10) (e_X7_why_j13 n v1 v2 1 s10)
theorem s_X7_why (n : Nat) (v1 : Nat) (v2 : Nat) (s : Nat) : eSim cR (m_X7_why n (nI v1) (nI v2) (cS s)) (e_X7_why n v1 v2 s) := by
  unfold m_X7_why e_X7_why
  exact sBx (s_X7_checkLine n v1 s) (fun x9 s10 => sIf (hLt rfl rfl) ((s_X7_why_j13 n v1 v2 0 s10)) ((s_X7_why_j13 n v1 v2 1 s10)))
def e_X7_bracket_j26 (n : Nat) (v1 : Nat) (v2 : Nat) (t0 : Nat) (s : Nat) : Option ((Nat ⊕ Nat) × Nat) :=
  eBx (e_X7_checkArgument n t0 s) fun x1 s2 => eBd (e_X1_hasRoomFor n v1 s2) fun x3 s4 => eBx (e_X7_checkState n x3 s4) fun x5 s6 => eBd (e_X1_set n v1 v2 s6) fun x7 s8 => eBd (e_X1_size n s8) fun x9 s10 => eRx x9 s10
theorem s_X7_bracket_j26 (n : Nat) (v1 : Nat) (v2 : Nat) (t0 : Nat) (s : Nat) : eSim cR (m_X7_bracket_j26 n (nI v1) (nI v2) (nI t0) (cS s)) (e_X7_bracket_j26 n v1 v2 t0 s) := by
  unfold m_X7_bracket_j26 e_X7_bracket_j26
  exact sBx (s_X7_checkArgument n t0 s) (fun x1 s2 => sBd (s_X1_hasRoomFor n v1 s2) (fun x3 s4 => sBx (s_X7_checkState n x3 s4) (fun x5 s6 => sBd (s_X1_set n v1 v2 s6) (fun x7 s8 => sBd (s_X1_size n s8) (fun x9 s10 => sRx rfl rfl)))))
def e_X7_bracket (n : Nat) (v1 : Nat) (v2 : Nat) (s : Nat) : Option ((Nat ⊕ Nat) × Nat) :=
  eBd (e_X7_isWithin n v1 0 1000000 s) fun x11 s12 => cond (eEq x11 0) (e_X7_bracket_j26 n v1 v2 0 s12) (eBd (e_X7_isWithin n v2 0 1000 s12) fun x14 s15 => cond (eEq x14 0) (e_X7_bracket_j26 n v1 v2 0 s15) (e_X7_bracket_j26 n v1 v2 1 s15))
theorem s_X7_bracket (n : Nat) (v1 : Nat) (v2 : Nat) (s : Nat) : eSim cR (m_X7_bracket n (nI v1) (nI v2) (cS s)) (e_X7_bracket n v1 v2 s) := by
  unfold m_X7_bracket e_X7_bracket
  exact sBd (s_X7_isWithin n v1 0 1000000 s) (fun x11 s12 => sIf (hEq rfl rfl) ((s_X7_bracket_j26 n v1 v2 0 s12)) (sBd (s_X7_isWithin n v2 0 1000 s12) (fun x14 s15 => sIf (hEq rfl rfl) ((s_X7_bracket_j26 n v1 v2 0 s15)) ((s_X7_bracket_j26 n v1 v2 1 s15)))))
def e_X7_dropBrackets (n : Nat) (s : Nat) : Option (Nat × Nat) :=
  eBd (e_X1_size n s) fun x1 s2 => eBd (e_X1_clear n s2) fun x3 s4 => eRt x1 s4
theorem s_X7_dropBrackets (n : Nat) (s : Nat) : eSim nI (m_X7_dropBrackets n  (cS s)) (e_X7_dropBrackets n  s) := by
  unfold m_X7_dropBrackets e_X7_dropBrackets
  exact sBd (s_X1_size n s) (fun x1 s2 => sBd (s_X1_clear n s2) (fun x3 s4 => sRt rfl rfl))
def e_X7_taxOn (n : Nat) (v1 : Nat) (s : Nat) : Option ((Nat ⊕ Nat) × Nat) :=
  eBd (e_X7_isWithin n v1 0 1000000000 s) fun x1 s2 => eBx (e_X7_checkArgument n x1 s2) fun x3 s4 => eBd (e_X1_tax n v1 s4) fun x5 s6 => eRx x5 s6
theorem s_X7_taxOn (n : Nat) (v1 : Nat) (s : Nat) : eSim cR (m_X7_taxOn n (nI v1) (cS s)) (e_X7_taxOn n v1 s) := by
  unfold m_X7_taxOn e_X7_taxOn
  exact sBd (s_X7_isWithin n v1 0 1000000000 s) (fun x1 s2 => sBx (s_X7_checkArgument n x1 s2) (fun x3 s4 => sBd (s_X1_tax n v1 s4) (fun x5 s6 => sRx rfl rfl)))
def e_X7_carry_j55 (n : Nat) (v1 : Nat) (v2 : Nat) (t0 : Nat) (s : Nat) : Option ((Nat ⊕ Nat) × Nat) :=
  eBx (e_X7_checkState n t0 s) fun x1 s2 => eBd (e_X0_add n v1 v2 s2) fun x3 s4 => eBd (e_X0_total n s4) fun x5 s6 => eRx x5 s6
theorem s_X7_carry_j55 (n : Nat) (v1 : Nat) (v2 : Nat) (t0 : Nat) (s : Nat) : eSim cR (m_X7_carry_j55 n (nI v1) (nI v2) (nI t0) (cS s)) (e_X7_carry_j55 n v1 v2 t0 s) := by
  unfold m_X7_carry_j55 e_X7_carry_j55
  exact sBx (s_X7_checkState n t0 s) (fun x1 s2 => sBd (s_X0_add n v1 v2 s2) (fun x3 s4 => sBd (s_X0_total n s4) (fun x5 s6 => sRx rfl rfl)))
def e_X7_carry_j35 (n : Nat) (v1 : Nat) (v2 : Nat) (t0 : Nat) (s : Nat) : Option ((Nat ⊕ Nat) × Nat) :=
  eBx (e_X7_checkArgument n t0 s) fun x7 s8 => eBd (e_X0_size n s8) fun x9 s10 => cond (eLe 8 x9) (e_X7_carry_j55 n v1 v2 0 s10) (e_X7_carry_j55 n v1 v2 1 s10)
theorem s_X7_carry_j35 (n : Nat) (v1 : Nat) (v2 : Nat) (t0 : Nat) (s : Nat) : eSim cR (m_X7_carry_j35 n (nI v1) (nI v2) (nI t0) (cS s)) (e_X7_carry_j35 n v1 v2 t0 s) := by
  unfold m_X7_carry_j35 e_X7_carry_j35
  exact sBx (s_X7_checkArgument n t0 s) (fun x7 s8 => sBd (s_X0_size n s8) (fun x9 s10 => sIf (hLe rfl rfl) ((s_X7_carry_j55 n v1 v2 0 s10)) ((s_X7_carry_j55 n v1 v2 1 s10))))
def e_X7_carry (n : Nat) (v1 : Nat) (v2 : Nat) (s : Nat) : Option ((Nat ⊕ Nat) × Nat) :=
  eBd (e_X0_now n s) fun x12 s13 => eBd (e_X7_isWithin n v1 1 1000000 s13) fun x14 s15 => cond (eEq x14 0) (e_X7_carry_j35 n v1 v2 0 s15) (eBd (e_X7_isWithin n v2 x12 (eAdd x12 20) s15) fun x17 s18 => cond (eEq x17 0) (e_X7_carry_j35 n v1 v2 0 s18) (e_X7_carry_j35 n v1 v2 1 s18))
theorem s_X7_carry (n : Nat) (v1 : Nat) (v2 : Nat) (s : Nat) : eSim cR (m_X7_carry n (nI v1) (nI v2) (cS s)) (e_X7_carry n v1 v2 s) := by
  unfold m_X7_carry e_X7_carry
  exact sBd (s_X0_now n s) (fun x12 s13 => sBd (s_X7_isWithin n v1 1 1000000 s13) (fun x14 s15 => sIf (hEq rfl rfl) ((s_X7_carry_j35 n v1 v2 0 s15)) (sBd (by rw [show (nI x12) + ((20 : Int32)) = nI (eAdd x12 20) from (hAdd rfl rfl)]; exact s_X7_isWithin n v2 x12 (eAdd x12 20) s15) (fun x17 s18 => sIf (hEq rfl rfl) ((s_X7_carry_j35 n v1 v2 0 s18)) ((s_X7_carry_j35 n v1 v2 1 s18))))))
def e_X7_carried (n : Nat) (s : Nat) : Option (Nat × Nat) :=
  eBd (e_X0_total n s) fun x1 s2 => eRt x1 s2
theorem s_X7_carried (n : Nat) (s : Nat) : eSim nI (m_X7_carried n  (cS s)) (e_X7_carried n  s) := by
  unfold m_X7_carried e_X7_carried
  exact sBd (s_X0_total n s) (fun x1 s2 => sRt rfl rfl)
def e_X7_carriedAt (n : Nat) (v1 : Nat) (s : Nat) : Option ((Nat ⊕ Nat) × Nat) :=
  cond (eLt v1 0) (eBx (e_X7_checkPlace n 0 s) fun x2 s3 => eBd (e_X0_leftAt n v1 s3) fun x4 s5 => eRx x4 s5) (eBd (e_X0_size n s) fun x6 s7 => cond (eLe x6 v1) (eBx (e_X7_checkPlace n 0 s7) fun x9 s10 => eBd (e_X0_leftAt n v1 s10) fun x11 s12 => eRx x11 s12) (eBx (e_X7_checkPlace n 1 s7) fun x13 s14 => eBd (e_X0_leftAt n v1 s14) fun x15 s16 => eRx x15 s16))
theorem s_X7_carriedAt (n : Nat) (v1 : Nat) (s : Nat) : eSim cR (m_X7_carriedAt n (nI v1) (cS s)) (e_X7_carriedAt n v1 s) := by
  unfold m_X7_carriedAt e_X7_carriedAt
  exact sIf (hLt rfl rfl) (sBx (s_X7_checkPlace n 0 s) (fun x2 s3 => sBd (s_X0_leftAt n v1 s3) (fun x4 s5 => sRx rfl rfl))) (sBd (s_X0_size n s) (fun x6 s7 => sIf (hLe rfl rfl) (sBx (s_X7_checkPlace n 0 s7) (fun x9 s10 => sBd (s_X0_leftAt n v1 s10) (fun x11 s12 => sRx rfl rfl))) (sBx (s_X7_checkPlace n 1 s7) (fun x13 s14 => sBd (s_X0_leftAt n v1 s14) (fun x15 s16 => sRx rfl rfl)))))
def e_X7_year (n : Nat) (s : Nat) : Option (Nat × Nat) :=
  eBd (e_X0_now n s) fun x1 s2 => eRt x1 s2
theorem s_X7_year (n : Nat) (s : Nat) : eSim nI (m_X7_year n  (cS s)) (e_X7_year n  s) := by
  unfold m_X7_year e_X7_year
  exact sBd (s_X0_now n s) (fun x1 s2 => sRt rfl rfl)
def e_X7_closeYear_j12 (n : Nat) : Nat → Nat → Nat → Nat → Option (Nat × Nat)
  | 0, _, _, _ => none
  | f + 1, v1, v2, s =>
    cond (eLe 16 v2) (eBd (e_X0_endYear n s) fun x2 s3 => eRt v1 s3) (eBd (e_X5_kind n v2 s) fun x4 s5 => cond (eEq x4 7) (eBd (e_X6_of n v2 s5) fun x8 s9 => eBd (e_X0_take n x8 s9) fun x10 s11 => eLi (eAdd v1 x10) fun x12 => eLi (eAdd v2 1) fun x13 => e_X7_closeYear_j12 n f x12 x13 s11) (eLi (eAdd v2 1) fun x7 => e_X7_closeYear_j12 n f v1 x7 s5))
theorem s_X7_closeYear_j12 (n : Nat) : ∀ f v1 v2 s, eSim nI (m_X7_closeYear_j12 n f (nI v1) (nI v2) (cS s)) (e_X7_closeYear_j12 n f v1 v2 s) := by
  intro f
  induction f with
  | zero => intro v1 v2 s; exact sNo
  | succ f ih =>
    intro v1 v2 s
    rw [m_X7_closeYear_j12, e_X7_closeYear_j12]
    exact sIf (hLe rfl rfl) (sBd (s_X0_endYear n s) (fun x2 s3 => sRt rfl rfl)) (sBd (s_X5_kind n v2 s) (fun x4 s5 => sIf (hEq rfl rfl) (sBd (s_X6_of n v2 s5) (fun x8 s9 => sBd (s_X0_take n x8 s9) (fun x10 s11 => sLi (hAdd rfl rfl) (fun x12 => sLi (hAdd rfl rfl) (fun x13 => (ih x12 x13 s11)))))) (sLi (hAdd rfl rfl) (fun x7 => (ih v1 x7 s5)))))
def e_X7_closeYear (n : Nat) (s : Nat) : Option (Nat × Nat) :=
  eBd (e_X6_workOut n 4294967295 s) fun x14 s15 => e_X7_closeYear_j12 n n 0 0 s15
theorem s_X7_closeYear (n : Nat) (s : Nat) : eSim nI (m_X7_closeYear n  (cS s)) (e_X7_closeYear n  s) := by
  unfold m_X7_closeYear e_X7_closeYear
  exact sBd (by rw [show (-1 : Int32) = nI 4294967295 from by decide]; exact s_X6_workOut n 4294967295 s) (fun x14 s15 => (s_X7_closeYear_j12 n n 0 0 s15))
def e_X7_addCredit_j45 (n : Nat) (v1 : Nat) (v2 : Nat) (t0 : Nat) (s : Nat) : Option ((Nat ⊕ Nat) × Nat) :=
  eBx (e_X7_checkState n t0 s) fun x1 s2 => eBd (e_X2_add n v1 v2 s2) fun x3 s4 => eBd (e_X2_size n s4) fun x5 s6 => eRx (eSub x5 1) s6
theorem s_X7_addCredit_j45 (n : Nat) (v1 : Nat) (v2 : Nat) (t0 : Nat) (s : Nat) : eSim cR (m_X7_addCredit_j45 n (nI v1) (nI v2) (nI t0) (cS s)) (e_X7_addCredit_j45 n v1 v2 t0 s) := by
  unfold m_X7_addCredit_j45 e_X7_addCredit_j45
  exact sBx (s_X7_checkState n t0 s) (fun x1 s2 => sBd (s_X2_add n v1 v2 s2) (fun x3 s4 => sBd (s_X2_size n s4) (fun x5 s6 => sRx (hSub rfl rfl) rfl)))
def e_X7_addCredit_j26 (n : Nat) (v1 : Nat) (v2 : Nat) (t0 : Nat) (s : Nat) : Option ((Nat ⊕ Nat) × Nat) :=
  eBx (e_X7_checkArgument n t0 s) fun x7 s8 => eBd (e_X2_size n s8) fun x9 s10 => cond (eLe 5 x9) (e_X7_addCredit_j45 n v1 v2 0 s10) (e_X7_addCredit_j45 n v1 v2 1 s10)
theorem s_X7_addCredit_j26 (n : Nat) (v1 : Nat) (v2 : Nat) (t0 : Nat) (s : Nat) : eSim cR (m_X7_addCredit_j26 n (nI v1) (nI v2) (nI t0) (cS s)) (e_X7_addCredit_j26 n v1 v2 t0 s) := by
  unfold m_X7_addCredit_j26 e_X7_addCredit_j26
  exact sBx (s_X7_checkArgument n t0 s) (fun x7 s8 => sBd (s_X2_size n s8) (fun x9 s10 => sIf (hLe rfl rfl) ((s_X7_addCredit_j45 n v1 v2 0 s10)) ((s_X7_addCredit_j45 n v1 v2 1 s10))))
def e_X7_addCredit (n : Nat) (v1 : Nat) (v2 : Nat) (s : Nat) : Option ((Nat ⊕ Nat) × Nat) :=
  eBd (e_X7_isWithin n v1 1 1000000 s) fun x12 s13 => cond (eEq x12 0) (e_X7_addCredit_j26 n v1 v2 0 s13) (eBd (e_X7_isWithin n v2 0 1000 s13) fun x15 s16 => cond (eEq x15 0) (e_X7_addCredit_j26 n v1 v2 0 s16) (e_X7_addCredit_j26 n v1 v2 1 s16))
theorem s_X7_addCredit (n : Nat) (v1 : Nat) (v2 : Nat) (s : Nat) : eSim cR (m_X7_addCredit n (nI v1) (nI v2) (cS s)) (e_X7_addCredit n v1 v2 s) := by
  unfold m_X7_addCredit e_X7_addCredit
  exact sBd (s_X7_isWithin n v1 1 1000000 s) (fun x12 s13 => sIf (hEq rfl rfl) ((s_X7_addCredit_j26 n v1 v2 0 s13)) (sBd (s_X7_isWithin n v2 0 1000 s13) (fun x15 s16 => sIf (hEq rfl rfl) ((s_X7_addCredit_j26 n v1 v2 0 s16)) ((s_X7_addCredit_j26 n v1 v2 1 s16)))))
def e_X7_dropCredit (n : Nat) (s : Nat) : Option ((Nat ⊕ Nat) × Nat) :=
  eBd (e_X2_size n s) fun x1 s2 => cond (eLe x1 0) (eBx (e_X7_checkState n 0 s2) fun x4 s5 => eBd (e_X2_dropLast n s5) fun x6 s7 => eBd (e_X2_size n s7) fun x8 s9 => eRx x8 s9) (eBx (e_X7_checkState n 1 s2) fun x10 s11 => eBd (e_X2_dropLast n s11) fun x12 s13 => eBd (e_X2_size n s13) fun x14 s15 => eRx x14 s15)
theorem s_X7_dropCredit (n : Nat) (s : Nat) : eSim cR (m_X7_dropCredit n  (cS s)) (e_X7_dropCredit n  s) := by
  unfold m_X7_dropCredit e_X7_dropCredit
  exact sBd (s_X2_size n s) (fun x1 s2 => sIf (hLe rfl rfl) (sBx (s_X7_checkState n 0 s2) (fun x4 s5 => sBd (s_X2_dropLast n s5) (fun x6 s7 => sBd (s_X2_size n s7) (fun x8 s9 => sRx rfl rfl)))) (sBx (s_X7_checkState n 1 s2) (fun x10 s11 => sBd (s_X2_dropLast n s11) (fun x12 s13 => sBd (s_X2_size n s13) (fun x14 s15 => sRx rfl rfl)))))
def e_X7_creditAt_j24 (n : Nat) (v1 : Nat) (v2 : Nat) (t0 : Nat) (s : Nat) : Option ((Nat ⊕ Nat) × Nat) :=
  eBx (e_X7_checkPlace n t0 s) fun x1 s2 => eBd (e_X6_workOut n 4294967295 s2) fun x3 s4 => eBd (e_X6_of n v1 s4) fun x5 s6 => eBd (e_X2_findBest n x5 s6) fun x7 s8 => eBd (e_X2_bestAt n v2 s8) fun x9 s10 => eRx x9 s10
theorem s_X7_creditAt_j24 (n : Nat) (v1 : Nat) (v2 : Nat) (t0 : Nat) (s : Nat) : eSim cR (m_X7_creditAt_j24 n (nI v1) (nI v2) (nI t0) (cS s)) (e_X7_creditAt_j24 n v1 v2 t0 s) := by
  unfold m_X7_creditAt_j24 e_X7_creditAt_j24
  exact sBx (s_X7_checkPlace n t0 s) (fun x1 s2 => sBd (by rw [show (-1 : Int32) = nI 4294967295 from by decide]; exact s_X6_workOut n 4294967295 s2) (fun x3 s4 => sBd (s_X6_of n v1 s4) (fun x5 s6 => sBd (s_X2_findBest n x5 s6) (fun x7 s8 => sBd (s_X2_bestAt n v2 s8) (fun x9 s10 => sRx rfl rfl)))))
def e_X7_creditAt (n : Nat) (v1 : Nat) (v2 : Nat) (s : Nat) : Option ((Nat ⊕ Nat) × Nat) :=
  eBx (e_X7_checkLine n v1 s) fun x11 s12 => cond (eLt v2 0) (e_X7_creditAt_j24 n v1 v2 0 s12) (eBd (e_X2_size n s12) fun x14 s15 => cond (eLe x14 v2) (e_X7_creditAt_j24 n v1 v2 0 s15) (e_X7_creditAt_j24 n v1 v2 1 s15))
theorem s_X7_creditAt (n : Nat) (v1 : Nat) (v2 : Nat) (s : Nat) : eSim cR (m_X7_creditAt n (nI v1) (nI v2) (cS s)) (e_X7_creditAt n v1 v2 s) := by
  unfold m_X7_creditAt e_X7_creditAt
  exact sBx (s_X7_checkLine n v1 s) (fun x11 s12 => sIf (hLt rfl rfl) ((s_X7_creditAt_j24 n v1 v2 0 s12)) (sBd (s_X2_size n s12) (fun x14 s15 => sIf (hLe rfl rfl) ((s_X7_creditAt_j24 n v1 v2 0 s15)) ((s_X7_creditAt_j24 n v1 v2 1 s15)))))
def e_X7_afterCredits (n : Nat) (v1 : Nat) (s : Nat) : Option ((Nat ⊕ Nat) × Nat) :=
  eBx (e_X7_checkLine n v1 s) fun x1 s2 => eBd (e_X6_workOut n 4294967295 s2) fun x3 s4 => eBd (e_X6_of n v1 s4) fun x5 s6 => eBd (e_X2_total n s6) fun x7 s8 => eRx (eSub x5 (cond (eLt x7 x5) x7 x5)) s8
theorem s_X7_afterCredits (n : Nat) (v1 : Nat) (s : Nat) : eSim cR (m_X7_afterCredits n (nI v1) (cS s)) (e_X7_afterCredits n v1 s) := by
  unfold m_X7_afterCredits e_X7_afterCredits
  exact sBx (s_X7_checkLine n v1 s) (fun x1 s2 => sBd (by rw [show (-1 : Int32) = nI 4294967295 from by decide]; exact s_X6_workOut n 4294967295 s2) (fun x3 s4 => sBd (s_X6_of n v1 s4) (fun x5 s6 => sBd (s_X2_total n s6) (fun x7 s8 => sRx (hSub rfl (hIte (hLt rfl rfl) rfl rfl)) rfl))))
def e_X7_bestSum (n : Nat) (v1 : Nat) (s : Nat) : Option ((Nat ⊕ Nat) × Nat) :=
  eBx (e_X7_checkLine n v1 s) fun x1 s2 => eBd (e_X6_workOut n 4294967295 s2) fun x3 s4 => eBd (e_X6_of n v1 s4) fun x5 s6 => eBd (e_X2_findBest n x5 s6) fun x7 s8 => eRx x7 s8
theorem s_X7_bestSum (n : Nat) (v1 : Nat) (s : Nat) : eSim cR (m_X7_bestSum n (nI v1) (cS s)) (e_X7_bestSum n v1 s) := by
  unfold m_X7_bestSum e_X7_bestSum
  exact sBx (s_X7_checkLine n v1 s) (fun x1 s2 => sBd (by rw [show (-1 : Int32) = nI 4294967295 from by decide]; exact s_X6_workOut n 4294967295 s2) (fun x3 s4 => sBd (s_X6_of n v1 s4) (fun x5 s6 => sBd (s_X2_findBest n x5 s6) (fun x7 s8 => sRx rfl rfl))))
end PE1
