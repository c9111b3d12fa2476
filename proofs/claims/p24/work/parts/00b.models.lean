def m_X0_now (n : Nat)  (s : zS) : Option (Int32 × zS) :=
  zRt (s 13 3) s
def m_X0_size (n : Nat)  (s : zS) : Option (Int32 × zS) :=
  zRt (s 13 2) s
def m_X7_at (n : Nat) (k N : Nat) (v1 : Int32) (s : zS) : Option (Int32 × zS) :=
  if v1 < 0 then (zRt (0 : Int32) s) else (if (Int32.ofNat N) ≤ v1 then (zRt (0 : Int32) s) else (zRd (s k) v1 N fun x3 => zRt x3 s))
def m_X0_leftAt (n : Nat) (v1 : Int32) (s : zS) : Option (Int32 × zS) :=
  zBd (m_X7_at n 14 8 v1 s) fun x1 s2 => zRt x1 s2
def m_X0_total_j4 (n : Nat) : Nat → Int32 → Int32 → zS → Option (Int32 × zS)
  | 0, _, _, _ => none
  | f + 1, v1, v2, s =>
    if (s 13 2) ≤ v2 then (zRt v1 s) else (zBd (m_X0_leftAt n v2 s) fun x2 s3 => zLt (v1 + x2) fun x4 => zLt (v2 + (1 : Int32)) fun x5 => m_X0_total_j4 n f x4 x5 s3)
def m_X0_total (n : Nat)  (s : zS) : Option (Int32 × zS) :=
  m_X0_total_j4  n n (0 : Int32) (0 : Int32) s
def m_X7_put (n : Nat) (k N : Nat) (v1 : Int32) (v2 : Int32) (s : zS) : Option (Int32 × zS) :=
  if v1 < 0 then (zRt 0 s) else (if (Int32.ofNat N) ≤ v1 then (zRt 0 s) else (zWr s k v1 N v2 fun s3 => zRt 0 s3))
def m_X0_move (n : Nat) (v1 : Int32) (v2 : Int32) (s : zS) : Option (Int32 × zS) :=
  zBd (m_X7_at n 14 8 v1 s) fun x1 s2 => zBd (m_X7_put n 14 8 v2 x1 s2) fun x3 s4 => zBd (m_X7_at n 15 8 v1 s4) fun x5 s6 => zBd (m_X7_put n 15 8 v2 x5 s6) fun x7 s8 => zRt 0 s8
def m_X0_add_j37 (n : Nat) (v1 : Int32) (v2 : Int32) (v3 : Int32) (s : zS) : Option (Int32 × zS) :=
  zBd (m_X7_put n 14 8 v3 v1 s) fun x1 s2 => zBd (m_X7_put n 15 8 v3 v2 s2) fun x3 s4 => zLt (zU s4 13 2 ((s4 13 2) + (1 : Int32))) fun s5 => zRt 0 s5
def m_X0_add_j5 (n : Nat) : Nat → Int32 → Int32 → Int32 → zS → Option (Int32 × zS)
  | 0, _, _, _, _ => none
  | f + 1, v1, v2, v3, s =>
    if v3 ≤ 0 then (m_X0_add_j37  n v1 v2 v3 s) else (zBd (m_X7_at n 15 8 (v3 - (1 : Int32)) s) fun x7 s8 => if x7 ≤ v2 then (m_X0_add_j37  n v1 v2 v3 s8) else (zBd (m_X0_move n (v3 - (1 : Int32)) v3 s8) fun x10 s11 => zLt (v3 + (-1 : Int32)) fun x12 => m_X0_add_j5 n f v1 v2 x12 s11))
def m_X0_add (n : Nat) (v1 : Int32) (v2 : Int32) (s : zS) : Option (Int32 × zS) :=
  zLt (s 13 2) fun x13 => m_X0_add_j5  n n v1 v2 x13 s
def m_X0_take_j4 (n : Nat) : Nat → Int32 → Int32 → Int32 → zS → Option (Int32 × zS)
  | 0, _, _, _, _ => none
  | f + 1, v1, v2, v3, s =>
    if (s 13 2) ≤ v3 then (zRt (v1 - v2) s) else (zBd (m_X0_leftAt n v3 s) fun x2 s3 => zLt (if x2 < v2 then x2 else v2) fun x4 => zBd (m_X0_leftAt n v3 s3) fun x5 s6 => zBd (m_X7_put n 14 8 v3 (x5 - x4) s6) fun x7 s8 => zLt (v2 - x4) fun x9 => zLt (v3 + (1 : Int32)) fun x10 => m_X0_take_j4 n f v1 x9 x10 s8)
def m_X0_take (n : Nat) (v1 : Int32) (s : zS) : Option (Int32 × zS) :=
  m_X0_take_j4  n n v1 v1 (0 : Int32) s
def m_X0_endYear_j4 (n : Nat) : Nat → Int32 → Int32 → zS → Option (Int32 × zS)
  | 0, _, _, _ => none
  | f + 1, v1, v2, s =>
    if (s 13 2) ≤ v2 then (zLt (zU s 13 2 v1) fun s2 => zLt (zU s2 13 3 ((s2 13 3) + (1 : Int32))) fun s3 => zRt 0 s3) else (zBd (m_X0_leftAt n v2 s) fun x4 s5 => if x4 ≤ 0 then (zLt (v2 + (1 : Int32)) fun x7 => m_X0_endYear_j4 n f v1 x7 s5) else (zBd (m_X7_at n 15 8 v2 s5) fun x8 s9 => if x8 ≤ (s9 13 3) then (zLt (v2 + (1 : Int32)) fun x11 => m_X0_endYear_j4 n f v1 x11 s9) else (zBd (m_X0_move n v2 v1 s9) fun x12 s13 => zLt (v1 + (1 : Int32)) fun x14 => zLt (v2 + (1 : Int32)) fun x15 => m_X0_endYear_j4 n f x14 x15 s13)))
def m_X0_endYear (n : Nat)  (s : zS) : Option (Int32 × zS) :=
  m_X0_endYear_j4  n n (0 : Int32) (0 : Int32) s
def m_X1_size (n : Nat)  (s : zS) : Option (Int32 × zS) :=
  zRt (s 10 2) s
def m_X1_clear (n : Nat)  (s : zS) : Option (Int32 × zS) :=
  zLt (zU s 10 2 (0 : Int32)) fun s1 => zRt 0 s1
def m_X1_placeFor_j2 (n : Nat) : Nat → Int32 → Int32 → zS → Option (Int32 × zS)
  | 0, _, _, _ => none
  | f + 1, v1, v2, s =>
    if (s 10 2) ≤ v2 then (zRt v2 s) else (zBd (m_X7_at n 11 5 v2 s) fun x2 s3 => if v1 ≤ x2 then (zRt v2 s3) else (zLt (v2 + (1 : Int32)) fun x5 => m_X1_placeFor_j2 n f v1 x5 s3))
def m_X1_placeFor (n : Nat) (v1 : Int32) (s : zS) : Option (Int32 × zS) :=
  m_X1_placeFor_j2  n n v1 (0 : Int32) s
def m_X1_isAt (n : Nat) (v1 : Int32) (v2 : Int32) (s : zS) : Option (Int32 × zS) :=
  if (s 10 2) ≤ v1 then (zRt (0 : Int32) s) else (zBd (m_X7_at n 11 5 v1 s) fun x2 s3 => if x2 = v2 then (zRt (1 : Int32) s3) else (zRt (0 : Int32) s3))
def m_X1_hasRoomFor (n : Nat) (v1 : Int32) (s : zS) : Option (Int32 × zS) :=
  if (s 10 2) < (5 : Int32) then (zRt (1 : Int32) s) else (zBd (m_X1_placeFor n v1 s) fun x2 s3 => zBd (m_X1_isAt n x2 v1 s3) fun x4 s5 => if x4 = 0 then (zRt (0 : Int32) s5) else (zRt (1 : Int32) s5))
def m_X1_set_j23 (n : Nat) : Nat → Int32 → Int32 → Int32 → Int32 → zS → Option (Int32 × zS)
  | 0, _, _, _, _, _ => none
  | f + 1, v1, v2, v3, v4, s =>
    if v4 < v3 then (zBd (m_X7_put n 11 5 v3 v1 s) fun x2 s3 => zLt (zU s3 10 2 ((s3 10 2) + (1 : Int32))) fun s4 => zBd (m_X7_put n 12 5 v3 v2 s4) fun x5 s6 => zRt 0 s6) else (zBd (m_X7_at n 11 5 v4 s) fun x7 s8 => zBd (m_X7_put n 11 5 (v4 + (1 : Int32)) x7 s8) fun x9 s10 => zBd (m_X7_at n 12 5 v4 s10) fun x11 s12 => zBd (m_X7_put n 12 5 (v4 + (1 : Int32)) x11 s12) fun x13 s14 => zLt (v4 + (-1 : Int32)) fun x15 => m_X1_set_j23 n f v1 v2 v3 x15 s14)
def m_X1_set (n : Nat) (v1 : Int32) (v2 : Int32) (s : zS) : Option (Int32 × zS) :=
  zBd (m_X1_placeFor n v1 s) fun x16 s17 => zBd (m_X1_isAt n x16 v1 s17) fun x18 s19 => if x18 = 0 then (zLt ((s19 10 2) - (1 : Int32)) fun x23 => m_X1_set_j23  n n v1 v2 x16 x23 s19) else (zBd (m_X7_put n 12 5 x16 v2 s19) fun x21 s22 => zRt 0 s22)
def m_X7_thousandths (n : Nat) (v0 : Int32) (v1 : Int32) (s : zS) : Option (Int32 × zS) :=
  zRt (Int64.toInt32 (((Int32.toInt64 v0) * (Int32.toInt64 v1)) / (1000 : Int64))) s
def m_X1_tax_j40 (rec4 : Int32 → Int32 → Int32 → zS → Option (Int32 × zS)) (n : Nat) (v1 : Int32) (v2 : Int32) (v3 : Int32) (t0 : Int32) (s : zS) : Option (Int32 × zS) :=
  zBd (m_X7_at n 11 5 v3 s) fun x1 s2 => zLt (if (t0 - x1) < (0 : Int32) then (0 : Int32) else (t0 - x1)) fun x3 => zBd (m_X7_at n 12 5 v3 s2) fun x4 s5 => zBd (m_X7_thousandths n x3 x4 s5) fun x6 s7 => zLt (v2 + x6) fun x8 => zLt (v3 + (1 : Int32)) fun x9 => rec4 v1 x8 x9 s7
def m_X1_tax_j4 (n : Nat) : Nat → Int32 → Int32 → Int32 → zS → Option (Int32 × zS)
  | 0, _, _, _, _ => none
  | f + 1, v1, v2, v3, s =>
    if (s 10 2) ≤ v3 then (zRt v2 s) else (if (s 10 2) ≤ (v3 + (1 : Int32)) then (m_X1_tax_j40 (m_X1_tax_j4 n f) n v1 v2 v3 v1 s) else (zBd (m_X7_at n 11 5 (v3 + (1 : Int32)) s) fun x12 s13 => m_X1_tax_j40 (m_X1_tax_j4 n f) n v1 v2 v3 (if x12 < v1 then x12 else v1) s13))
def m_X1_tax (n : Nat) (v1 : Int32) (s : zS) : Option (Int32 × zS) :=
  m_X1_tax_j4  n n v1 (0 : Int32) (0 : Int32) s
def m_X2_size (n : Nat)  (s : zS) : Option (Int32 × zS) :=
  zRt (s 16 4) s
def m_X2_add (n : Nat) (v1 : Int32) (v2 : Int32) (s : zS) : Option (Int32 × zS) :=
  zBd (m_X7_put n 17 5 (s 16 4) v1 s) fun x1 s2 => zBd (m_X7_put n 18 5 (s2 16 4) v2 s2) fun x3 s4 => zLt (zU s4 16 4 ((s4 16 4) + (1 : Int32))) fun s5 => zRt 0 s5
def m_X2_dropLast (n : Nat)  (s : zS) : Option (Int32 × zS) :=
  zLt (zU s 16 4 ((s 16 4) - (1 : Int32))) fun s1 => zRt 0 s1
def m_X2_total_j4 (n : Nat) : Nat → Int32 → Int32 → zS → Option (Int32 × zS)
  | 0, _, _, _ => none
  | f + 1, v1, v2, s =>
    if (s 16 4) ≤ v2 then (zRt v1 s) else (zBd (m_X7_at n 17 5 v2 s) fun x2 s3 => zLt (v1 + x2) fun x4 => zLt (v2 + (1 : Int32)) fun x5 => m_X2_total_j4 n f x4 x5 s3)
def m_X2_total (n : Nat)  (s : zS) : Option (Int32 × zS) :=
  m_X2_total_j4  n n (0 : Int32) (0 : Int32) s
def m_X2_bestAt (n : Nat) (v1 : Int32) (s : zS) : Option (Int32 × zS) :=
  zBd (m_X7_at n 20 5 v1 s) fun x1 s2 => zRt x1 s2
def m_X2_sumInOrder_j7 (n : Nat) : Nat → Int32 → Int32 → Int32 → zS → Option (Int32 × zS)
  | 0, _, _, _, _ => none
  | f + 1, v2, v3, v4, s =>
    if (s 16 4) ≤ v4 then (zRt v3 s) else (zBd (m_X7_at n 19 5 v4 s) fun x2 s3 => zBd (m_X7_at n 17 5 x2 s3) fun x4 s5 => zLt (if x4 < v2 then x4 else v2) fun x6 => zLt (v2 - x6) fun x7 => zBd (m_X7_at n 17 5 x2 s5) fun x8 s9 => zBd (m_X7_at n 18 5 x2 s9) fun x10 s11 => zBd (m_X7_thousandths n (x8 - x6) x10 s11) fun x12 s13 => zLt (v3 + (x6 + x12)) fun x14 => zLt (v4 + (1 : Int32)) fun x15 => m_X2_sumInOrder_j7 n f x7 x14 x15 s13)
def m_X2_sumInOrder (n : Nat) (v1 : Int32) (s : zS) : Option (Int32 × zS) :=
  m_X2_sumInOrder_j7  n n v1 (0 : Int32) (0 : Int32) s
def m_X2_keepOrder_j2 (n : Nat) : Nat → Int32 → zS → Option (Int32 × zS)
  | 0, _, _ => none
  | f + 1, v1, s =>
    if (s 16 4) ≤ v1 then (zRt 0 s) else (zBd (m_X7_at n 19 5 v1 s) fun x2 s3 => zBd (m_X7_put n 20 5 v1 x2 s3) fun x4 s5 => zLt (v1 + (1 : Int32)) fun x6 => m_X2_keepOrder_j2 n f x6 s5)
def m_X2_keepOrder (n : Nat)  (s : zS) : Option (Int32 × zS) :=
  m_X2_keepOrder_j2  n n (0 : Int32) s
def m_X2_swap (n : Nat) (v1 : Int32) (v2 : Int32) (s : zS) : Option (Int32 × zS) :=
  zBd (m_X7_at n 19 5 v1 s) fun x1 s2 => zBd (m_X7_at n 19 5 v2 s2) fun x3 s4 => zBd (m_X7_put n 19 5 v1 x3 s4) fun x5 s6 => zBd (m_X7_put n 19 5 v2 x1 s6) fun x7 s8 => zRt 0 s8
def m_X2_toNextOrder_j99 (n : Nat) : Nat → Int32 → Int32 → zS → Option (Int32 × zS)
  | 0, _, _, _ => none
  | f + 1, v3, v4, s =>
    if v4 ≤ v3 then (zRt (1 : Int32) s) else (zBd (m_X2_swap n v3 v4 s) fun x2 s3 => zLt (v3 + (1 : Int32)) fun x4 => zLt (v4 + (-1 : Int32)) fun x5 => m_X2_toNextOrder_j99 n f x4 x5 s3)
def m_X2_toNextOrder_j81 (n : Nat) (v1 : Int32) (v2 : Int32) (s : zS) : Option (Int32 × zS) :=
  zBd (m_X2_swap n v1 v2 s) fun x6 s7 => zLt (v1 + (1 : Int32)) fun x8 => zLt ((s7 16 4) - (1 : Int32)) fun x9 => m_X2_toNextOrder_j99  n n x8 x9 s7
def m_X2_toNextOrder_j51 (n : Nat) : Nat → Int32 → Int32 → zS → Option (Int32 × zS)
  | 0, _, _, _ => none
  | f + 1, v1, v2, s =>
    if v2 ≤ v1 then (m_X2_toNextOrder_j81  n v1 v2 s) else (zBd (m_X7_at n 19 5 v2 s) fun x11 s12 => zBd (m_X7_at n 19 5 v1 s12) fun x13 s14 => if x13 ≤ x11 then (m_X2_toNextOrder_j81  n v1 v2 s14) else (zLt (v2 + (-1 : Int32)) fun x16 => m_X2_toNextOrder_j51 n f v1 x16 s14))
def m_X2_toNextOrder_j38 (n : Nat) (v1 : Int32) (s : zS) : Option (Int32 × zS) :=
  if 0 ≤ v1 then (zLt ((s 16 4) - (1 : Int32)) fun x18 => m_X2_toNextOrder_j51  n n v1 x18 s) else (zRt (0 : Int32) s)
def m_X2_toNextOrder_j7 (n : Nat) : Nat → Int32 → zS → Option (Int32 × zS)
  | 0, _, _ => none
  | f + 1, v1, s =>
    if v1 < 0 then (m_X2_toNextOrder_j38  n v1 s) else (zBd (m_X7_at n 19 5 v1 s) fun x20 s21 => zBd (m_X7_at n 19 5 (v1 + (1 : Int32)) s21) fun x22 s23 => if x20 ≤ x22 then (m_X2_toNextOrder_j38  n v1 s23) else (zLt (v1 + (-1 : Int32)) fun x25 => m_X2_toNextOrder_j7 n f x25 s23))
def m_X2_toNextOrder (n : Nat)  (s : zS) : Option (Int32 × zS) :=
  zLt ((s 16 4) - (2 : Int32)) fun x26 => m_X2_toNextOrder_j7  n n x26 s
def m_X2_findBest_j29 (n : Nat) : Nat → Int32 → Int32 → Int32 → Int32 → zS → Option (Int32 × zS)
  | 0, _, _, _, _, _ => none
  | f + 1, v1, v2, v3, v4, s =>
    if (120 : Int32) ≤ v4 then (zRt v2 s) else (if v3 = 0 then (zRt v2 s) else (zBd (m_X2_sumInOrder n v1 s) fun x3 s4 => if x3 ≤ v2 then (zBd (m_X2_toNextOrder n s4) fun x6 s7 => zLt (v4 + (1 : Int32)) fun x8 => m_X2_findBest_j29 n f v1 v2 x6 x8 s7) else (zBd (m_X2_keepOrder n s4) fun x9 s10 => zBd (m_X2_toNextOrder n s10) fun x11 s12 => zLt (v4 + (1 : Int32)) fun x13 => m_X2_findBest_j29 n f v1 x3 x11 x13 s12)))
def m_X2_findBest_j2 (n : Nat) : Nat → Int32 → Int32 → zS → Option (Int32 × zS)
  | 0, _, _, _ => none
  | f + 1, v1, v2, s =>
    if (5 : Int32) ≤ v2 then (m_X2_findBest_j29  n n v1 (-1 : Int32) (1 : Int32) (0 : Int32) s) else (zBd (m_X7_put n 19 5 v2 v2 s) fun x15 s16 => zLt (v2 + (1 : Int32)) fun x17 => m_X2_findBest_j2 n f v1 x17 s16)
def m_X2_findBest (n : Nat) (v1 : Int32) (s : zS) : Option (Int32 × zS) :=
  m_X2_findBest_j2  n n v1 (0 : Int32) s
def m_X7_bit (n : Nat) (v0 : Int32) (s : zS) : Option (Int32 × zS) :=
  zRt ((1 : Int32) <<< (v0 &&& 31)) s
def m_X7_has (n : Nat) (v0 : Int32) (v1 : Int32) (s : zS) : Option (Int32 × zS) :=
  zBd (m_X7_bit n v1 s) fun x1 s2 => if (v0 &&& x1) = 0 then (zRt (0 : Int32) s2) else (zRt (1 : Int32) s2)
def m_X3_add (n : Nat) (v1 : Int32) (s : zS) : Option (Int32 × zS) :=
  zBd (m_X7_has n (s 25 2) v1 s) fun x1 s2 => if x1 = 0 then (zBd (m_X7_put n 26 16 (s2 25 1) v1 s2) fun x4 s5 => zLt (zU s5 25 1 ((s5 25 1) + (1 : Int32))) fun s6 => zBd (m_X7_bit n v1 s6) fun x7 s8 => zLt (zU s8 25 2 ((s6 25 2) ||| x7)) fun s9 => zRt 0 s9) else (zRt 0 s2)
def m_X5_first (n : Nat) (v1 : Int32) (s : zS) : Option (Int32 × zS) :=
  zBd (m_X7_at n 3 16 v1 s) fun x1 s2 => zRt x1 s2
def m_X5_kind (n : Nat) (v1 : Int32) (s : zS) : Option (Int32 × zS) :=
  zBd (m_X7_at n 2 16 v1 s) fun x1 s2 => zRt x1 s2
def m_X6_of (n : Nat) (v1 : Int32) (s : zS) : Option (Int32 × zS) :=
  zBd (m_X7_at n 22 16 v1 s) fun x1 s2 => zRt x1 s2
def m_X5_second (n : Nat) (v1 : Int32) (s : zS) : Option (Int32 × zS) :=
  zBd (m_X7_at n 4 16 v1 s) fun x1 s2 => zRt x1 s2
def m_X3_addReasons (n : Nat) (v1 : Int32) (s : zS) : Option (Int32 × zS) :=
  zBd (m_X5_first n v1 s) fun x1 s2 => zBd (m_X5_kind n v1 s2) fun x3 s4 => if x3 = (1 : Int32) then (zBd (m_X3_add n x1 s4) fun x6 s7 => zBd (m_X5_second n v1 s7) fun x8 s9 => zBd (m_X3_add n x8 s9) fun x10 s11 => zRt 0 s11) else if x3 = (2 : Int32) then (zBd (m_X3_add n x1 s4) fun x13 s14 => zBd (m_X5_second n v1 s14) fun x15 s16 => zBd (m_X3_add n x15 s16) fun x17 s18 => zRt 0 s18) else if x3 = (3 : Int32) then (zBd (m_X3_add n x1 s4) fun x20 s21 => zRt 0 s21) else if x3 = (4 : Int32) then (zBd (m_X6_of n x1 s4) fun x23 s24 => zBd (m_X6_of n v1 s24) fun x25 s26 => if x23 = x25 then (zBd (m_X3_add n x1 s26) fun x32 s33 => zRt 0 s33) else (zBd (m_X5_second n v1 s26) fun x28 s29 => zBd (m_X3_add n x28 s29) fun x30 s31 => zRt 0 s31)) else if x3 = (5 : Int32) then (zBd (m_X6_of n x1 s4) fun x35 s36 => zBd (m_X6_of n v1 s36) fun x37 s38 => if x35 = x37 then (zBd (m_X3_add n x1 s38) fun x44 s45 => zRt 0 s45) else (zBd (m_X5_second n v1 s38) fun x40 s41 => zBd (m_X3_add n x40 s41) fun x42 s43 => zRt 0 s43)) else if x3 = (6 : Int32) then (zBd (m_X3_add n x1 s4) fun x47 s48 => zRt 0 s48) else if x3 = (7 : Int32) then (zBd (m_X3_add n x1 s4) fun x50 s51 => zRt 0 s51) else if x3 = (8 : Int32) then (zBd (m_X6_of n x1 s4) fun x53 s54 => zBd (m_X6_of n v1 s54) fun x55 s56 => if x53 = x55 then (zBd (m_X3_add n x1 s56) fun x62 s63 => zRt 0 s63) else (zBd (m_X5_second n v1 s56) fun x58 s59 => zBd (m_X3_add n x58 s59) fun x60 s61 => zRt 0 s61)) else (zRt 0 s4)
def m_X3_explain_j18 (n : Nat) : Nat → Int32 → zS → Option (Int32 × zS)
  | 0, _, _ => none
  | f + 1, v4, s =>
    if (16 : Int32) ≤ v4 then (zRt 0 s) else (if (s 25 1) ≤ v4 then (zRt 0 s) else (zBd (m_X7_at n 26 16 v4 s) fun x3 s4 => zBd (m_X3_addReasons n x3 s4) fun x5 s6 => zLt (v4 + (1 : Int32)) fun x7 => m_X3_explain_j18 n f x7 s6))
def m_X3_explain (n : Nat) (v1 : Int32) (s : zS) : Option (Int32 × zS) :=
  zLt (zU s 25 1 (0 : Int32)) fun s8 => zLt (zU s8 25 2 (0 : Int32)) fun s9 => zBd (m_X3_add n v1 s9) fun x10 s11 => m_X3_explain_j18  n n (0 : Int32) s11
def m_X3_lineAt (n : Nat) (v1 : Int32) (s : zS) : Option (Int32 × zS) :=
  if v1 < 0 then (zRt (-1 : Int32) s) else (if (s 25 1) ≤ v1 then (zRt (-1 : Int32) s) else (zBd (m_X7_at n 26 16 v1 s) fun x3 s4 => zRt x3 s4))
def m_X7_takesFirst (n : Nat) (v0 : Int32) (s : zS) : Option (Int32 × zS) :=
  if v0 = 0 then (zRt (0 : Int32) s) else (zRt (1 : Int32) s)
def m_X7_takesSecond_j26 (n : Nat)  (s : zS) : Option (Int32 × zS) :=
  zRt (1 : Int32) s
def m_X7_takesSecond (n : Nat) (v0 : Int32) (s : zS) : Option (Int32 × zS) :=
  if v0 = (1 : Int32) then (m_X7_takesSecond_j26  n s) else (if v0 = (2 : Int32) then (m_X7_takesSecond_j26  n s) else (if v0 = (4 : Int32) then (m_X7_takesSecond_j26  n s) else (if v0 = (5 : Int32) then (m_X7_takesSecond_j26  n s) else (if v0 = (8 : Int32) then (m_X7_takesSecond_j26  n s) else (zRt (0 : Int32) s)))))
def m_X5_uses_j25 (n : Nat) (v1 : Int32) (v2 : Int32) (t0 : Int32) (s : zS) : Option (Int32 × zS) :=
  zBd (m_X7_takesSecond n v2 s) fun x1 s2 => if x1 = 0 then (zRt t0 s2) else (zBd (m_X5_second n v1 s2) fun x4 s5 => zBd (m_X7_bit n x4 s5) fun x6 s7 => zRt (t0 ||| x6) s7)
def m_X5_uses (n : Nat) (v1 : Int32) (s : zS) : Option (Int32 × zS) :=
  zBd (m_X5_kind n v1 s) fun x8 s9 => zBd (m_X7_takesFirst n x8 s9) fun x10 s11 => if x10 = 0 then (m_X5_uses_j25  n v1 x8 (0 : Int32) s11) else (zBd (m_X5_first n v1 s11) fun x13 s14 => zBd (m_X7_bit n x13 s14) fun x15 s16 => m_X5_uses_j25  n v1 x8 x15 s16)
def m_X4_reach (n : Nat) (v1 : Int32) (s : zS) : Option (Int32 × zS) :=
  zBd (m_X7_at n 7 16 v1 s) fun x1 s2 => zRt x1 s2
def m_X4_findReach_j37 (rec29 : Int32 → zS → Option (Int32 × zS)) (n : Nat) : Nat → Int32 → Int32 → zS → Option (Int32 × zS)
  | 0, _, _, _ => none
  | f + 1, v2, v3, s =>
    if (16 : Int32) ≤ v3 then (zLt (v2 + (1 : Int32)) fun x2 => rec29 x2 s) else (zBd (m_X4_reach n v3 s) fun x3 s4 => zBd (m_X7_has n x3 v2 s4) fun x5 s6 => if x5 = 0 then (zLt (v3 + (1 : Int32)) fun x8 => m_X4_findReach_j37 rec29 n f v2 x8 s6) else (zBd (m_X4_reach n v3 s6) fun x9 s10 => zBd (m_X4_reach n v2 s10) fun x11 s12 => zBd (m_X7_put n 7 16 v3 (x9 ||| x11) s12) fun x13 s14 => zLt (v3 + (1 : Int32)) fun x15 => m_X4_findReach_j37 rec29 n f v2 x15 s14))
def m_X4_findReach_j29 (n : Nat) : Nat → Int32 → zS → Option (Int32 × zS)
  | 0, _, _ => none
  | f + 1, v2, s =>
    if (16 : Int32) ≤ v2 then (zRt 0 s) else (m_X4_findReach_j37 (m_X4_findReach_j29 n f) n n v2 (0 : Int32) s)
def m_X4_findReach_j2 (n : Nat) : Nat → Int32 → zS → Option (Int32 × zS)
  | 0, _, _ => none
  | f + 1, v2, s =>
    if (16 : Int32) ≤ v2 then (m_X4_findReach_j29  n n (0 : Int32) s) else (zBd (m_X5_uses n v2 s) fun x18 s19 => zBd (m_X7_put n 7 16 v2 x18 s19) fun x20 s21 => zLt (v2 + (1 : Int32)) fun x22 => m_X4_findReach_j2 n f x22 s21)
def m_X4_findReach (n : Nat)  (s : zS) : Option (Int32 × zS) :=
  m_X4_findReach_j2  n n (0 : Int32) s
def m_X4_findGroups_j15 (rec2 : Int32 → zS → Option (Int32 × zS)) (n : Nat) : Nat → Int32 → Int32 → Int32 → zS → Option (Int32 × zS)
  | 0, _, _, _, _ => none
  | f + 1, v1, v2, v3, s =>
    if (16 : Int32) ≤ v3 then (zBd (m_X7_put n 8 16 v1 v2 s) fun x2 s3 => zLt (v1 + (1 : Int32)) fun x4 => rec2 x4 s3) else (zBd (m_X4_reach n v1 s) fun x5 s6 => zBd (m_X7_has n x5 v3 s6) fun x7 s8 => if x7 = 0 then (zLt (v3 + (1 : Int32)) fun x10 => m_X4_findGroups_j15 rec2 n f v1 v2 x10 s8) else (zBd (m_X4_reach n v3 s8) fun x11 s12 => zBd (m_X7_has n x11 v1 s12) fun x13 s14 => if x13 = 0 then (zLt (v3 + (1 : Int32)) fun x16 => m_X4_findGroups_j15 rec2 n f v1 v2 x16 s14) else (zBd (m_X7_bit n v3 s14) fun x17 s18 => zLt (v2 ||| x17) fun x19 => zLt (v3 + (1 : Int32)) fun x20 => m_X4_findGroups_j15 rec2 n f v1 x19 x20 s18)))
def m_X4_findGroups_j2 (n : Nat) : Nat → Int32 → zS → Option (Int32 × zS)
  | 0, _, _ => none
  | f + 1, v1, s =>
    if (16 : Int32) ≤ v1 then (zRt 0 s) else (zBd (m_X7_bit n v1 s) fun x22 s23 => m_X4_findGroups_j15 (m_X4_findGroups_j2 n f) n n v1 x22 (0 : Int32) s23)
def m_X4_findGroups (n : Nat)  (s : zS) : Option (Int32 × zS) :=
  m_X4_findGroups_j2  n n (0 : Int32) s
def m_X4_groupOf (n : Nat) (v1 : Int32) (s : zS) : Option (Int32 × zS) :=
  zBd (m_X7_at n 8 16 v1 s) fun x1 s2 => zRt x1 s2
def m_X4_isReady (n : Nat) (v1 : Int32) (s : zS) : Option (Int32 × zS) :=
  zBd (m_X7_has n (s 6 4) v1 s) fun x1 s2 => if x1 = 0 then (zBd (m_X4_reach n v1 s2) fun x4 s5 => zBd (m_X4_groupOf n v1 s5) fun x6 s7 => if ((x4 &&& (x6 ^^^ (-1 : Int32))) &&& ((s7 6 4) ^^^ (-1 : Int32))) = 0 then (zRt (1 : Int32) s7) else (zRt (0 : Int32) s7)) else (zRt (0 : Int32) s2)
def m_X4_isCircular (n : Nat) (v1 : Int32) (s : zS) : Option (Int32 × zS) :=
  zBd (m_X4_reach n v1 s) fun x1 s2 => zBd (m_X7_has n x1 v1 s2) fun x3 s4 => zGd (vp_nar .boolean x3 = x3) (zRt x3 s4)
def m_X4_place (n : Nat) (v1 : Int32) (s : zS) : Option (Int32 × zS) :=
  zBd (m_X7_put n 9 16 (s 6 3) v1 s) fun x1 s2 => zLt (zU s2 6 3 ((s2 6 3) + (1 : Int32))) fun s3 => zBd (m_X7_bit n v1 s3) fun x4 s5 => zLt (zU s5 6 4 ((s3 6 4) ||| x4)) fun s6 => zRt 0 s6
def m_X4_onlyLimit_j5 (n : Nat) : Nat → Int32 → Int32 → Int32 → zS → Option (Int32 × zS)
  | 0, _, _, _, _ => none
  | f + 1, v2, v3, v4, s =>
    if (16 : Int32) ≤ v4 then (zRt v3 s) else (zBd (m_X7_has n v2 v4 s) fun x2 s3 => if x2 = 0 then (zLt (v4 + (1 : Int32)) fun x5 => m_X4_onlyLimit_j5 n f v2 v3 x5 s3) else (zBd (m_X5_kind n v4 s3) fun x6 s7 => if x6 = (8 : Int32) then (if v3 = (-1 : Int32) then (zLt (v4 + (1 : Int32)) fun x11 => m_X4_onlyLimit_j5 n f v2 v4 x11 s7) else (zRt (-1 : Int32) s7)) else (zLt (v4 + (1 : Int32)) fun x9 => m_X4_onlyLimit_j5 n f v2 v3 x9 s7)))
def m_X4_onlyLimit (n : Nat) (v2 : Int32) (s : zS) : Option (Int32 × zS) :=
  m_X4_onlyLimit_j5  n n v2 (-1 : Int32) (0 : Int32) s
def m_X4_direct_j127 (n : Nat) (v2 : Int32) (v7 : Int32) (s : zS) : Option (Int32 × zS) :=
  if v7 = 0 then (zRt 0 s) else (zBd (m_X7_bit n v2 s) fun x2 s3 => zLt (zU s3 6 6 ((s 6 6) ||| x2)) fun s4 => zRt 0 s4)
def m_X4_direct_j107 (n : Nat) (v2 : Int32) (v6 : Int32) (t0 : Int32) (s : zS) : Option (Int32 × zS) :=
  if v6 = 0 then (m_X4_direct_j127  n v2 t0 s) else (zBd (m_X7_bit n v2 s) fun x6 s7 => zLt (zU s7 6 5 ((s 6 5) ||| x6)) fun s8 => m_X4_direct_j127  n v2 t0 s8)
def m_X4_direct_j80 (n : Nat) (v2 : Int32) (v4 : Int32) (v5 : Int32) (t0 : Int32) (s : zS) : Option (Int32 × zS) :=
  if (v4 &&& (s 6 6)) = 0 then (if (v5 &&& (s 6 5)) = 0 then (m_X4_direct_j107  n v2 t0 (0 : Int32) s) else (m_X4_direct_j107  n v2 t0 (1 : Int32) s)) else (m_X4_direct_j107  n v2 t0 (1 : Int32) s)
def m_X4_direct_j53 (n : Nat) (v2 : Int32) (v4 : Int32) (t0 : Int32) (s : zS) : Option (Int32 × zS) :=
  if (v4 &&& (s 6 5)) = 0 then (if (t0 &&& (s 6 6)) = 0 then (m_X4_direct_j80  n v2 v4 t0 (0 : Int32) s) else (m_X4_direct_j80  n v2 v4 t0 (1 : Int32) s)) else (m_X4_direct_j80  n v2 v4 t0 (1 : Int32) s)
def m_X4_direct_j35 (n : Nat) (v2 : Int32) (v3 : Int32) (t0 : Int32) (s : zS) : Option (Int32 × zS) :=
  if v3 = 0 then (m_X4_direct_j53  n v2 t0 (0 : Int32) s) else (zBd (m_X5_second n v2 s) fun x14 s15 => zBd (m_X7_bit n x14 s15) fun x16 s17 => m_X4_direct_j53  n v2 t0 x16 s17)
def m_X4_direct_j14 (n : Nat) (v2 : Int32) (t0 : Int32) (s : zS) : Option (Int32 × zS) :=
  if t0 = 0 then (zBd (m_X5_uses n v2 s) fun x19 s20 => m_X4_direct_j35  n v2 t0 x19 s20) else (zBd (m_X5_first n v2 s) fun x21 s22 => zBd (m_X7_bit n x21 s22) fun x23 s24 => m_X4_direct_j35  n v2 t0 x23 s24)
def m_X4_direct (n : Nat) (v2 : Int32) (s : zS) : Option (Int32 × zS) :=
  zBd (m_X5_kind n v2 s) fun x25 s26 => if x25 = (2 : Int32) then (m_X4_direct_j14  n v2 (1 : Int32) s26) else (m_X4_direct_j14  n v2 (0 : Int32) s26)
def m_X4_placeCircle_j137 (n : Nat) (v3 : Int32) (t0 : Int32) (s : zS) : Option (Int32 × zS) :=
  if t0 = 0 then (zRt (0 : Int32) s) else (if ((s 6 5) &&& (s 6 6)) = 0 then (zBd (m_X5_second n v3 s) fun x3 s4 => zBd (m_X7_has n (s 6 6) x3 s4) fun x5 s6 => if x5 = 0 then (zRt (0 : Int32) s6) else (zRt (1 : Int32) s6)) else (zRt (0 : Int32) s))
def m_X4_placeCircle_j57 (rec47 : Int32 → Int32 → Int32 → zS → Option (Int32 × zS)) (n : Nat) : Nat → Int32 → Int32 → Int32 → Int32 → zS → Option (Int32 × zS)
  | 0, _, _, _, _, _ => none
  | f + 1, v2, v3, v4, v5, s =>
    if (16 : Int32) ≤ v5 then (zLt (v4 + (1 : Int32)) fun x9 => rec47 v2 v3 x9 s) else (zBd (m_X7_has n (v2 &&& ((s 6 4) ^^^ (-1 : Int32))) v5 s) fun x10 s11 => if x10 = 0 then (zLt (v5 + (1 : Int32)) fun x13 => m_X4_placeCircle_j57 rec47 n f v2 v3 v4 x13 s11) else (zBd (m_X5_uses n v5 s11) fun x14 s15 => if (x14 &&& ((s15 6 4) ^^^ (-1 : Int32))) = 0 then (zBd (m_X4_place n v5 s15) fun x18 s19 => zBd (m_X4_direct n v5 s19) fun x20 s21 => zLt (v5 + (1 : Int32)) fun x22 => m_X4_placeCircle_j57 rec47 n f v2 v3 v4 x22 s21) else (zLt (v5 + (1 : Int32)) fun x17 => m_X4_placeCircle_j57 rec47 n f v2 v3 v4 x17 s15)))
def m_X4_placeCircle_j47 (n : Nat) : Nat → Int32 → Int32 → Int32 → zS → Option (Int32 × zS)
  | 0, _, _, _, _ => none
  | f + 1, v2, v3, v4, s =>
    if (16 : Int32) ≤ v4 then (if (v2 &&& ((s 6 4) ^^^ (-1 : Int32))) = 0 then (m_X4_placeCircle_j137  n v3 (1 : Int32) s) else (m_X4_placeCircle_j137  n v3 (0 : Int32) s)) else (m_X4_placeCircle_j57 (m_X4_placeCircle_j47 n f) n n v2 v3 v4 (0 : Int32) s)
def m_X4_placeCircle (n : Nat) (v2 : Int32) (s : zS) : Option (Int32 × zS) :=
  zBd (m_X4_onlyLimit n v2 s) fun x25 s26 => if x25 = (-1 : Int32) then (zRt (0 : Int32) s26) else (zBd (m_X5_first n x25 s26) fun x28 s29 => zBd (m_X7_has n v2 x28 s29) fun x30 s31 => if x30 = 0 then (zBd (m_X7_bit n x25 s31) fun x33 s34 => zLt (zU s34 6 5 x33) fun s35 => zLt (zU s35 6 6 (0 : Int32)) fun s36 => zBd (m_X4_place n x25 s36) fun x37 s38 => m_X4_placeCircle_j47  n n v2 x25 (0 : Int32) s38) else (zRt (0 : Int32) s31))
def m_X4_make_j68 (rec21 : Int32 → zS → Option (Int32 × zS)) (rec38 : Int32 → Int32 → zS → Option (Int32 × zS)) (n : Nat) (v2 : Int32) (v3 : Int32) (s : zS) : Option (Int32 × zS) :=
  zBd (m_X4_isReady n v3 s) fun x1 s2 => if x1 = 0 then (zLt (v3 + (1 : Int32)) fun x4 => rec38 v2 x4 s2) else (zBd (m_X4_groupOf n v3 s2) fun x5 s6 => zBd (m_X4_placeCircle n x5 s6) fun x7 s8 => if x7 = 0 then (zRt (0 : Int32) s8) else (zLt (v3 + (1 : Int32)) fun x10 => rec38 v2 x10 s8))
def m_X4_make_j38 (rec21 : Int32 → zS → Option (Int32 × zS)) (n : Nat) : Nat → Int32 → Int32 → zS → Option (Int32 × zS)
  | 0, _, _, _ => none
  | f + 1, v2, v3, s =>
    if (16 : Int32) ≤ v3 then (zLt (v2 + (1 : Int32)) fun x12 => rec21 x12 s) else (zBd (m_X4_isReady n v3 s) fun x13 s14 => if x13 = 0 then (m_X4_make_j68 rec21 (m_X4_make_j38 rec21 n f) n v2 v3 s14) else (zBd (m_X4_isCircular n v3 s14) fun x16 s17 => if x16 = 0 then (zBd (m_X4_place n v3 s17) fun x19 s20 => zLt (v3 + (1 : Int32)) fun x21 => m_X4_make_j38 rec21 n f v2 x21 s20) else (m_X4_make_j68 rec21 (m_X4_make_j38 rec21 n f) n v2 v3 s17)))
def m_X4_make_j21 (n : Nat) : Nat → Int32 → zS → Option (Int32 × zS)
  | 0, _, _ => none
  | f + 1, v2, s =>
    if (16 : Int32) ≤ v2 then (zRt (1 : Int32) s) else (if (s 6 4) = (65535 : Int32) then (zRt (1 : Int32) s) else (m_X4_make_j38 (m_X4_make_j21 n f) n n v2 (0 : Int32) s))
def m_X4_make (n : Nat)  (s : zS) : Option (Int32 × zS) :=
  zBd (m_X4_findReach n s) fun x24 s25 => zBd (m_X4_findGroups n s25) fun x26 s27 => zLt (zU s27 6 3 (0 : Int32)) fun s28 => zLt (zU s28 6 4 (0 : Int32)) fun s29 => m_X4_make_j21  n n (0 : Int32) s29
def m_X4_lineAt (n : Nat) (v1 : Int32) (s : zS) : Option (Int32 × zS) :=
  zBd (m_X7_at n 9 16 v1 s) fun x1 s2 => zRt x1 s2
def m_X4_placeOf_j2 (n : Nat) : Nat → Int32 → Int32 → zS → Option (Int32 × zS)
  | 0, _, _, _ => none
  | f + 1, v1, v2, s =>
    if (16 : Int32) ≤ v2 then (zRt (-1 : Int32) s) else (zBd (m_X4_lineAt n v2 s) fun x2 s3 => if x2 = v1 then (zRt v2 s3) else (zLt (v2 + (1 : Int32)) fun x5 => m_X4_placeOf_j2 n f v1 x5 s3))
def m_X4_placeOf (n : Nat) (v1 : Int32) (s : zS) : Option (Int32 × zS) :=
  m_X4_placeOf_j2  n n v1 (0 : Int32) s
def m_X5_set (n : Nat) (v1 : Int32) (v2 : Int32) (v3 : Int32) (v4 : Int32) (s : zS) : Option (Int32 × zS) :=
  zBd (m_X7_put n 2 16 v1 v2 s) fun x1 s2 => zBd (m_X7_put n 3 16 v1 v3 s2) fun x3 s4 => zBd (m_X7_put n 4 16 v1 v4 s4) fun x5 s6 => zRt 0 s6
def m_X5_given (n : Nat) (v1 : Int32) (s : zS) : Option (Int32 × zS) :=
  zBd (m_X7_at n 5 16 v1 s) fun x1 s2 => zRt x1 s2
def m_X5_give (n : Nat) (v1 : Int32) (v2 : Int32) (s : zS) : Option (Int32 × zS) :=
  zBd (m_X7_put n 5 16 v1 v2 s) fun x1 s2 => zRt 0 s2
def m_J6_bitCount_0f7a4 (n : Nat) (v0 : Int32) (s : zS) : Option (Int32 × zS) :=
  zLt (v0 - (((v0.toUInt32 >>> ((1 : Int32).toUInt32 &&& Int32.toUInt32 31)).toInt32) &&& (1431655765 : Int32))) fun x1 => zLt ((x1 &&& (858993459 : Int32)) + (((x1.toUInt32 >>> ((2 : Int32).toUInt32 &&& Int32.toUInt32 31)).toInt32) &&& (858993459 : Int32))) fun x2 => zLt ((x2 + ((x2.toUInt32 >>> ((4 : Int32).toUInt32 &&& Int32.toUInt32 31)).toInt32)) &&& (252645135 : Int32)) fun x3 => zLt (x3 + ((x3.toUInt32 >>> ((8 : Int32).toUInt32 &&& Int32.toUInt32 31)).toInt32)) fun x4 => zLt (x4 + ((x4.toUInt32 >>> ((16 : Int32).toUInt32 &&& Int32.toUInt32 31)).toInt32)) fun x5 => zRt (x5 &&& (63 : Int32)) s
def m_X6_plain (n : Nat) (v1 : Int32) (s : zS) : Option (Int32 × zS) :=
  zBd (m_X5_first n v1 s) fun x1 s2 => zBd (m_X6_of n x1 s2) fun x3 s4 => zBd (m_X5_second n v1 s4) fun x5 s6 => zBd (m_X5_kind n v1 s6) fun x7 s8 => if x7 = (1 : Int32) then (zBd (m_X6_of n x5 s8) fun x10 s11 => zRt (if (1000000000 : Int32) < (x3 + x10) then (1000000000 : Int32) else (x3 + x10)) s11) else if x7 = (2 : Int32) then (zBd (m_X6_of n x5 s8) fun x13 s14 => zRt (if (x3 - x13) < (0 : Int32) then (0 : Int32) else (x3 - x13)) s14) else if x7 = (3 : Int32) then (zBd (m_X7_thousandths n x3 x5 s8) fun x16 s17 => zRt x16 s17) else if x7 = (4 : Int32) then (zBd (m_X6_of n x5 s8) fun x19 s20 => zRt (if x19 < x3 then x19 else x3) s20) else if x7 = (5 : Int32) then (zBd (m_X6_of n x5 s8) fun x22 s23 => zRt (if x3 < x22 then x22 else x3) s23) else if x7 = (6 : Int32) then (zBd (m_X1_tax n x3 s8) fun x25 s26 => zRt x25 s26) else if x7 = (7 : Int32) then (zBd (m_X0_total n s8) fun x28 s29 => zRt (if x28 < x3 then x28 else x3) s29) else if x7 = (8 : Int32) then (zBd (m_X6_of n x5 s8) fun x31 s32 => zRt (if x31 < x3 then x31 else x3) s32) else (if v1 = (s8 21 5) then (zBd (m_X5_given n v1 s8) fun x36 s37 => zRt (x36 + (1 : Int32)) s37) else (zBd (m_X5_given n v1 s8) fun x34 s35 => zRt x34 s35))
def m_X6_suppose_j38 (n : Nat) : Nat → Int32 → Int32 → zS → Option (Int32 × zS)
  | 0, _, _, _ => none
  | f + 1, v4, v5, s =>
    if v4 ≤ v5 then (zRt 0 s) else (zBd (m_X4_lineAt n v5 s) fun x2 s3 => zBd (m_X6_plain n x2 s3) fun x4 s5 => zBd (m_X7_put n 22 16 x2 x4 s5) fun x6 s7 => zLt (v5 + (1 : Int32)) fun x8 => m_X6_suppose_j38 n f v4 x8 s7)
def m_X6_suppose (n : Nat) (v1 : Int32) (v2 : Int32) (s : zS) : Option (Int32 × zS) :=
  zBd (m_X4_lineAt n v1 s) fun x9 s10 => zBd (m_X7_put n 22 16 x9 v2 s10) fun x11 s12 => zBd (m_X4_groupOf n x9 s12) fun x13 s14 => zBd (m_J6_bitCount_0f7a4 n x13 s14) fun x15 s16 => zLt (v1 + x15) fun x17 => zLt (v1 + (1 : Int32)) fun x18 => m_X6_suppose_j38  n n x17 x18 s16
def m_X6_greatest_j28 (n : Nat) : Nat → Int32 → Int32 → Int32 → Int32 → Int32 → zS → Option (Int32 × zS)
  | 0, _, _, _, _, _, _ => none
  | f + 1, v1, v2, v3, v4, v5, s =>
    if (31 : Int32) ≤ v5 then (zRt v3 s) else (if v4 ≤ v3 then (zRt v3 s) else (zLt (v3 + (((v4 - v3) + (1 : Int32)) / (2 : Int32))) fun x3 => zBd (m_X6_suppose n v1 x3 s) fun x4 s5 => zBd (m_X5_second n v2 s5) fun x6 s7 => zBd (m_X6_of n x6 s7) fun x8 s9 => if x8 < x3 then (zLt (x3 - (1 : Int32)) fun x11 => zLt (v5 + (1 : Int32)) fun x12 => m_X6_greatest_j28 n f v1 v2 v3 x11 x12 s9) else (zLt (v5 + (1 : Int32)) fun x13 => m_X6_greatest_j28 n f v1 v2 x3 v4 x13 s9)))
def m_X6_greatest (n : Nat) (v1 : Int32) (s : zS) : Option (Int32 × zS) :=
  zBd (m_X4_lineAt n v1 s) fun x14 s15 => zBd (m_X5_first n x14 s15) fun x16 s17 => zBd (m_X6_of n x16 s17) fun x18 s19 => m_X6_greatest_j28  n n v1 x14 (0 : Int32) x18 (0 : Int32) s19
def m_X6_workOut_j51 (rec7 : Int32 → zS → Option (Int32 × zS)) (n : Nat) (v2 : Int32) (v3 : Int32) (t0 : Int32) (s : zS) : Option (Int32 × zS) :=
  if t0 = 0 then (zBd (m_X6_plain n v3 s) fun x2 s3 => zBd (m_X7_put n 22 16 v3 x2 s3) fun x4 s5 => zLt (v2 + (1 : Int32)) fun x6 => rec7 x6 s5) else (zBd (m_X6_greatest n v2 s) fun x7 s8 => zBd (m_X7_put n 22 16 v3 x7 s8) fun x9 s10 => zLt (v2 + (1 : Int32)) fun x11 => rec7 x11 s10)
def m_X6_workOut_j7 (n : Nat) : Nat → Int32 → zS → Option (Int32 × zS)
  | 0, _, _ => none
  | f + 1, v2, s =>
    if (16 : Int32) ≤ v2 then (zRt 0 s) else (zBd (m_X4_lineAt n v2 s) fun x13 s14 => zBd (m_X5_kind n x13 s14) fun x15 s16 => if x15 = (8 : Int32) then (zBd (m_X4_isCircular n x13 s16) fun x18 s19 => if x18 = 0 then (m_X6_workOut_j51 (m_X6_workOut_j7 n f) n v2 x13 (0 : Int32) s19) else (m_X6_workOut_j51 (m_X6_workOut_j7 n f) n v2 x13 (1 : Int32) s19)) else (m_X6_workOut_j51 (m_X6_workOut_j7 n f) n v2 x13 (0 : Int32) s16))
def m_X6_workOut (n : Nat) (v1 : Int32) (s : zS) : Option (Int32 × zS) :=
  zLt (zU s 21 5 v1) fun s21 => m_X6_workOut_j7  n n (0 : Int32) s21
def m_X7_isWithin (n : Nat) (v0 : Int32) (v1 : Int32) (v2 : Int32) (s : zS) : Option (Int32 × zS) :=
  if v0 < v1 then (zRt (0 : Int32) s) else (if v2 < v0 then (zRt (0 : Int32) s) else (zRt (1 : Int32) s))
def m_X7_checkPlace (n : Nat) (v0 : Int32) (s : zS) : Option ((Int32 ⊕ Nat) × zS) :=
  if v0 = 0 then (zTx 1 s) else (zRx 0 s)
def m_X7_checkLine (n : Nat) (v0 : Int32) (s : zS) : Option ((Int32 ⊕ Nat) × zS) :=
  zBd (m_X7_isWithin n v0 (0 : Int32) (15 : Int32) s) fun x1 s2 => zBx (m_X7_checkPlace n x1 s2) fun x3 s4 => zRx 0 s4
def m_X7_checkArgument (n : Nat) (v0 : Int32) (s : zS) : Option ((Int32 ⊕ Nat) × zS) :=
  if v0 = 0 then (zTx 2 s) else (zRx 0 s)
def m_X7_define_j73 (n : Nat) (v1 : Int32) (v2 : Int32) (v3 : Int32) (v4 : Int32) (t0 : Int32) (s : zS) : Option ((Int32 ⊕ Nat) × zS) :=
  zBx (m_X7_checkArgument n t0 s) fun x1 s2 => zBd (m_X5_kind n v1 s2) fun x3 s4 => zBd (m_X5_first n v1 s4) fun x5 s6 => zBd (m_X5_second n v1 s6) fun x7 s8 => zBd (m_X5_set n v1 v2 v3 v4 s8) fun x9 s10 => zBd (m_X4_make n s10) fun x11 s12 => if x11 = 0 then (zBd (m_X5_set n v1 x3 x5 x7 s12) fun x14 s15 => zBd (m_X4_make n s15) fun x16 s17 => zTx 3 s17) else (zRx 0 s12)
def m_X7_define_j46 (n : Nat) (v1 : Int32) (v2 : Int32) (v3 : Int32) (v4 : Int32) (v5 : Int32) (s : zS) : Option ((Int32 ⊕ Nat) × zS) :=
  if v5 = 0 then (m_X7_define_j73  n v1 v2 v3 v4 (0 : Int32) s) else (if v2 = (3 : Int32) then (zBd (m_X7_isWithin n v4 (0 : Int32) (1000 : Int32) s) fun x20 s21 => if x20 = 0 then (m_X7_define_j73  n v1 v2 v3 v4 (0 : Int32) s21) else (m_X7_define_j73  n v1 v2 v3 v4 (1 : Int32) s21)) else (m_X7_define_j73  n v1 v2 v3 v4 (1 : Int32) s))
def m_X7_define_j29 (n : Nat) (v1 : Int32) (v2 : Int32) (v3 : Int32) (v4 : Int32) (v5 : Int32) (s : zS) : Option ((Int32 ⊕ Nat) × zS) :=
  if v5 = 0 then (m_X7_define_j46  n v1 v2 v3 v4 v5 s) else (zBd (m_X7_takesSecond n v2 s) fun x24 s25 => if x24 = 0 then (m_X7_define_j46  n v1 v2 v3 v4 v5 s25) else (zBx (m_X7_checkLine n v4 s25) fun x27 s28 => m_X7_define_j46  n v1 v2 v3 v4 v5 s28))
def m_X7_define (n : Nat) (v1 : Int32) (v2 : Int32) (v3 : Int32) (v4 : Int32) (s : zS) : Option ((Int32 ⊕ Nat) × zS) :=
  zBx (m_X7_checkLine n v1 s) fun x29 s30 => zBd (m_X7_isWithin n v2 (0 : Int32) (8 : Int32) s30) fun x31 s32 => if x31 = 0 then (m_X7_define_j29  n v1 v2 v3 v4 x31 s32) else (zBd (m_X7_takesFirst n v2 s32) fun x34 s35 => if x34 = 0 then (m_X7_define_j29  n v1 v2 v3 v4 x31 s35) else (zBx (m_X7_checkLine n v3 s35) fun x37 s38 => m_X7_define_j29  n v1 v2 v3 v4 x31 s38))
def m_X7_answer (n : Nat) (v1 : Int32) (v2 : Int32) (s : zS) : Option ((Int32 ⊕ Nat) × zS) :=
  zBx (m_X7_checkLine n v1 s) fun x1 s2 => zBd (m_X7_isWithin n v2 (0 : Int32) (1000000 : Int32) s2) fun x3 s4 => zBx (m_X7_checkArgument n x3 s4) fun x5 s6 => zBd (m_X5_given n v1 s6) fun x7 s8 => zBd (m_X5_give n v1 v2 s8) fun x9 s10 => zRx x7 s10
def m_X7_kindOf (n : Nat) (v1 : Int32) (s : zS) : Option ((Int32 ⊕ Nat) × zS) :=
  zBx (m_X7_checkLine n v1 s) fun x1 s2 => zBd (m_X5_kind n v1 s2) fun x3 s4 => zRx x3 s4
def m_X7_value (n : Nat) (v1 : Int32) (s : zS) : Option ((Int32 ⊕ Nat) × zS) :=
  zBx (m_X7_checkLine n v1 s) fun x1 s2 => zBd (m_X6_workOut n (-1 : Int32) s2) fun x3 s4 => zBd (m_X6_of n v1 s4) fun x5 s6 => zRx x5 s6
def m_X7_checkState (n : Nat) (v0 : Int32) (s : zS) : Option ((Int32 ⊕ Nat) × zS) :=
  if v0 = 0 then (zTx 3 s) else (zRx 0 s)
def m_X7_boundFor_j32 (n : Nat) (v1 : Int32) (v2 : Int32) (t0 : Int32) (s : zS) : Option ((Int32 ⊕ Nat) × zS) :=
  zBx (m_X7_checkState n t0 s) fun x1 s2 => zBd (m_X6_workOut n (-1 : Int32) s2) fun x3 s4 => zBd (m_X4_placeOf n v1 s4) fun x5 s6 => zBd (m_X6_suppose n x5 v2 s6) fun x7 s8 => zBd (m_X5_second n v1 s8) fun x9 s10 => zBd (m_X6_of n x9 s10) fun x11 s12 => zRx x11 s12
def m_X7_boundFor (n : Nat) (v1 : Int32) (v2 : Int32) (s : zS) : Option ((Int32 ⊕ Nat) × zS) :=
  zBx (m_X7_checkLine n v1 s) fun x13 s14 => zBd (m_X7_isWithin n v2 (0 : Int32) (1000000000 : Int32) s14) fun x15 s16 => zBx (m_X7_checkArgument n x15 s16) fun x17 s18 => zBd (m_X5_kind n v1 s18) fun x19 s20 => if x19 = (8 : Int32) then (m_X7_boundFor_j32  n v1 v2 (1 : Int32) s20) else (m_X7_boundFor_j32  n v1 v2 (0 : Int32) s20)
def m_X7_dependsOn (n : Nat) (v1 : Int32) (v2 : Int32) (s : zS) : Option ((Int32 ⊕ Nat) × zS) :=
  zBx (m_X7_checkLine n v1 s) fun x1 s2 => zBx (m_X7_checkLine n v2 s2) fun x3 s4 => zBd (m_X4_reach n v1 s4) fun x5 s6 => zBd (m_X7_has n x5 v2 s6) fun x7 s8 => zGd (vp_nar .boolean x7 = x7) (zRx x7 s8)
def m_X6b_of (n : Nat) (v1 : Int32) (s : zS) : Option (Int32 × zS) :=
  zBd (m_X7_at n 24 16 v1 s) fun x1 s2 => zRt x1 s2
def m_X6b_plain (n : Nat) (v1 : Int32) (s : zS) : Option (Int32 × zS) :=
  zBd (m_X5_first n v1 s) fun x1 s2 => zBd (m_X6b_of n x1 s2) fun x3 s4 => zBd (m_X5_second n v1 s4) fun x5 s6 => zBd (m_X5_kind n v1 s6) fun x7 s8 => if x7 = (1 : Int32) then (zBd (m_X6b_of n x5 s8) fun x10 s11 => zRt (if (1000000000 : Int32) < (x3 + x10) then (1000000000 : Int32) else (x3 + x10)) s11) else if x7 = (2 : Int32) then (zBd (m_X6b_of n x5 s8) fun x13 s14 => zRt (if (x3 - x13) < (0 : Int32) then (0 : Int32) else (x3 - x13)) s14) else if x7 = (3 : Int32) then (zBd (m_X7_thousandths n x3 x5 s8) fun x16 s17 => zRt x16 s17) else if x7 = (4 : Int32) then (zBd (m_X6b_of n x5 s8) fun x19 s20 => zRt (if x19 < x3 then x19 else x3) s20) else if x7 = (5 : Int32) then (zBd (m_X6b_of n x5 s8) fun x22 s23 => zRt (if x3 < x22 then x22 else x3) s23) else if x7 = (6 : Int32) then (zBd (m_X1_tax n x3 s8) fun x25 s26 => zRt x25 s26) else if x7 = (7 : Int32) then (zBd (m_X0_total n s8) fun x28 s29 => zRt (if x28 < x3 then x28 else x3) s29) else if x7 = (8 : Int32) then (zBd (m_X6b_of n x5 s8) fun x31 s32 => zRt (if x31 < x3 then x31 else x3) s32) else (if v1 = (s8 23 5) then (zBd (m_X5_given n v1 s8) fun x36 s37 => zRt (x36 + (1 : Int32)) s37) else (zBd (m_X5_given n v1 s8) fun x34 s35 => zRt x34 s35))
def m_X6b_suppose_j38 (n : Nat) : Nat → Int32 → Int32 → zS → Option (Int32 × zS)
  | 0, _, _, _ => none
  | f + 1, v4, v5, s =>
    if v4 ≤ v5 then (zRt 0 s) else (zBd (m_X4_lineAt n v5 s) fun x2 s3 => zBd (m_X6b_plain n x2 s3) fun x4 s5 => zBd (m_X7_put n 24 16 x2 x4 s5) fun x6 s7 => zLt (v5 + (1 : Int32)) fun x8 => m_X6b_suppose_j38 n f v4 x8 s7)
def m_X6b_suppose (n : Nat) (v1 : Int32) (v2 : Int32) (s : zS) : Option (Int32 × zS) :=
  zBd (m_X4_lineAt n v1 s) fun x9 s10 => zBd (m_X7_put n 24 16 x9 v2 s10) fun x11 s12 => zBd (m_X4_groupOf n x9 s12) fun x13 s14 => zBd (m_J6_bitCount_0f7a4 n x13 s14) fun x15 s16 => zLt (v1 + x15) fun x17 => zLt (v1 + (1 : Int32)) fun x18 => m_X6b_suppose_j38  n n x17 x18 s16
def m_X6b_greatest_j28 (n : Nat) : Nat → Int32 → Int32 → Int32 → Int32 → Int32 → zS → Option (Int32 × zS)
  | 0, _, _, _, _, _, _ => none
  | f + 1, v1, v2, v3, v4, v5, s =>
    if (31 : Int32) ≤ v5 then (zRt v3 s) else (if v4 ≤ v3 then (zRt v3 s) else (zLt (v3 + (((v4 - v3) + (1 : Int32)) / (2 : Int32))) fun x3 => zBd (m_X6b_suppose n v1 x3 s) fun x4 s5 => zBd (m_X5_second n v2 s5) fun x6 s7 => zBd (m_X6b_of n x6 s7) fun x8 s9 => if x8 < x3 then (zLt (x3 - (1 : Int32)) fun x11 => zLt (v5 + (1 : Int32)) fun x12 => m_X6b_greatest_j28 n f v1 v2 v3 x11 x12 s9) else (zLt (v5 + (1 : Int32)) fun x13 => m_X6b_greatest_j28 n f v1 v2 x3 v4 x13 s9)))
def m_X6b_greatest (n : Nat) (v1 : Int32) (s : zS) : Option (Int32 × zS) :=
  zBd (m_X4_lineAt n v1 s) fun x14 s15 => zBd (m_X5_first n x14 s15) fun x16 s17 => zBd (m_X6b_of n x16 s17) fun x18 s19 => m_X6b_greatest_j28  n n v1 x14 (0 : Int32) x18 (0 : Int32) s19
def m_X6b_workOut_j51 (rec7 : Int32 → zS → Option (Int32 × zS)) (n : Nat) (v2 : Int32) (v3 : Int32) (t0 : Int32) (s : zS) : Option (Int32 × zS) :=
  if t0 = 0 then (zBd (m_X6b_plain n v3 s) fun x2 s3 => zBd (m_X7_put n 24 16 v3 x2 s3) fun x4 s5 => zLt (v2 + (1 : Int32)) fun x6 => rec7 x6 s5) else (zBd (m_X6b_greatest n v2 s) fun x7 s8 => zBd (m_X7_put n 24 16 v3 x7 s8) fun x9 s10 => zLt (v2 + (1 : Int32)) fun x11 => rec7 x11 s10)
def m_X6b_workOut_j7 (n : Nat) : Nat → Int32 → zS → Option (Int32 × zS)
  | 0, _, _ => none
  | f + 1, v2, s =>
    if (16 : Int32) ≤ v2 then (zRt 0 s) else (zBd (m_X4_lineAt n v2 s) fun x13 s14 => zBd (m_X5_kind n x13 s14) fun x15 s16 => if x15 = (8 : Int32) then (zBd (m_X4_isCircular n x13 s16) fun x18 s19 => if x18 = 0 then (m_X6b_workOut_j51 (m_X6b_workOut_j7 n f) n v2 x13 (0 : Int32) s19) else (m_X6b_workOut_j51 (m_X6b_workOut_j7 n f) n v2 x13 (1 : Int32) s19)) else (m_X6b_workOut_j51 (m_X6b_workOut_j7 n f) n v2 x13 (0 : Int32) s16))
def m_X6b_workOut (n : Nat) (v1 : Int32) (s : zS) : Option (Int32 × zS) :=
  zLt (zU s 23 5 v1) fun s21 => m_X6b_workOut_j7  n n (0 : Int32) s21
def m_X7_influence_j37 (n : Nat) : Nat → Int32 → Int32 → zS → Option ((Int32 ⊕ Nat) × zS)
  | 0, _, _, _ => none
  | f + 1, v2, v3, s =>
    if (16 : Int32) ≤ v3 then (zRx v2 s) else (zBd (m_X6_of n v3 s) fun x2 s3 => zBd (m_X6b_of n v3 s3) fun x4 s5 => if x2 = x4 then (zLt (v3 + (1 : Int32)) fun x7 => m_X7_influence_j37 n f v2 x7 s5) else (zLt (v2 + (1 : Int32)) fun x8 => zLt (v3 + (1 : Int32)) fun x9 => m_X7_influence_j37 n f x8 x9 s5))
def m_X7_influence (n : Nat) (v1 : Int32) (s : zS) : Option ((Int32 ⊕ Nat) × zS) :=
  zBx (m_X7_checkLine n v1 s) fun x10 s11 => zBd (m_X5_kind n v1 s11) fun x12 s13 => if x12 = 0 then (zBd (m_X6_workOut n (-1 : Int32) s13) fun x15 s16 => zBd (m_X6b_workOut n v1 s16) fun x17 s18 => m_X7_influence_j37  n n (0 : Int32) (0 : Int32) s18) else (zRx (0 : Int32) s13)
def m_X7_why_j13 (n : Nat) (v1 : Int32) (v2 : Int32) (t0 : Int32) (s : zS) : Option ((Int32 ⊕ Nat) × zS) :=
  zBx (m_X7_checkPlace n t0 s) fun x1 s2 => zBd (m_X6_workOut n (-1 : Int32) s2) fun x3 s4 => zBd (m_X3_explain n v1 s4) fun x5 s6 => zBd (m_X3_lineAt n v2 s6) fun x7 s8 => zRx x7 s8
def m_X7_why (n : Nat) (v1 : Int32) (v2 : Int32) (s : zS) : Option ((Int32 ⊕ Nat) × zS) :=
  zBx (m_X7_checkLine n v1 s) fun x9 s10 => if v2 < 0 then (m_X7_why_j13  n v1 v2 (0 : Int32) s10) else (m_X7_why_j13  n v1 v2 (1 : Int32) s10)
def m_X7_bracket_j26 (n : Nat) (v1 : Int32) (v2 : Int32) (t0 : Int32) (s : zS) : Option ((Int32 ⊕ Nat) × zS) :=
  zBx (m_X7_checkArgument n t0 s) fun x1 s2 => zBd (m_X1_hasRoomFor n v1 s2) fun x3 s4 => zBx (m_X7_checkState n x3 s4) fun x5 s6 => zBd (m_X1_set n v1 v2 s6) fun x7 s8 => zBd (m_X1_size n s8) fun x9 s10 => zRx x9 s10
def m_X7_bracket (n : Nat) (v1 : Int32) (v2 : Int32) (s : zS) : Option ((Int32 ⊕ Nat) × zS) :=
  zBd (m_X7_isWithin n v1 (0 : Int32) (1000000 : Int32) s) fun x11 s12 => if x11 = 0 then (m_X7_bracket_j26  n v1 v2 (0 : Int32) s12) else (zBd (m_X7_isWithin n v2 (0 : Int32) (1000 : Int32) s12) fun x14 s15 => if x14 = 0 then (m_X7_bracket_j26  n v1 v2 (0 : Int32) s15) else (m_X7_bracket_j26  n v1 v2 (1 : Int32) s15))
def m_X7_dropBrackets (n : Nat)  (s : zS) : Option (Int32 × zS) :=
  zBd (m_X1_size n s) fun x1 s2 => zBd (m_X1_clear n s2) fun x3 s4 => zRt x1 s4
def m_X7_taxOn (n : Nat) (v1 : Int32) (s : zS) : Option ((Int32 ⊕ Nat) × zS) :=
  zBd (m_X7_isWithin n v1 (0 : Int32) (1000000000 : Int32) s) fun x1 s2 => zBx (m_X7_checkArgument n x1 s2) fun x3 s4 => zBd (m_X1_tax n v1 s4) fun x5 s6 => zRx x5 s6
def m_X7_carry_j55 (n : Nat) (v1 : Int32) (v2 : Int32) (t0 : Int32) (s : zS) : Option ((Int32 ⊕ Nat) × zS) :=
  zBx (m_X7_checkState n t0 s) fun x1 s2 => zBd (m_X0_add n v1 v2 s2) fun x3 s4 => zBd (m_X0_total n s4) fun x5 s6 => zRx x5 s6
def m_X7_carry_j35 (n : Nat) (v1 : Int32) (v2 : Int32) (t0 : Int32) (s : zS) : Option ((Int32 ⊕ Nat) × zS) :=
  zBx (m_X7_checkArgument n t0 s) fun x7 s8 => zBd (m_X0_size n s8) fun x9 s10 => if (8 : Int32) ≤ x9 then (m_X7_carry_j55  n v1 v2 (0 : Int32) s10) else (m_X7_carry_j55  n v1 v2 (1 : Int32) s10)
def m_X7_carry (n : Nat) (v1 : Int32) (v2 : Int32) (s : zS) : Option ((Int32 ⊕ Nat) × zS) :=
  zBd (m_X0_now n s) fun x12 s13 => zBd (m_X7_isWithin n v1 (1 : Int32) (1000000 : Int32) s13) fun x14 s15 => if x14 = 0 then (m_X7_carry_j35  n v1 v2 (0 : Int32) s15) else (zBd (m_X7_isWithin n v2 x12 (x12 + (20 : Int32)) s15) fun x17 s18 => if x17 = 0 then (m_X7_carry_j35  n v1 v2 (0 : Int32) s18) else (m_X7_carry_j35  n v1 v2 (1 : Int32) s18))
def m_X7_carried (n : Nat)  (s : zS) : Option (Int32 × zS) :=
  zBd (m_X0_total n s) fun x1 s2 => zRt x1 s2
def m_X7_carriedAt (n : Nat) (v1 : Int32) (s : zS) : Option ((Int32 ⊕ Nat) × zS) :=
  if v1 < 0 then (zBx (m_X7_checkPlace n (0 : Int32) s) fun x2 s3 => zBd (m_X0_leftAt n v1 s3) fun x4 s5 => zRx x4 s5) else (zBd (m_X0_size n s) fun x6 s7 => if x6 ≤ v1 then (zBx (m_X7_checkPlace n (0 : Int32) s7) fun x9 s10 => zBd (m_X0_leftAt n v1 s10) fun x11 s12 => zRx x11 s12) else (zBx (m_X7_checkPlace n (1 : Int32) s7) fun x13 s14 => zBd (m_X0_leftAt n v1 s14) fun x15 s16 => zRx x15 s16))
def m_X7_year (n : Nat)  (s : zS) : Option (Int32 × zS) :=
  zBd (m_X0_now n s) fun x1 s2 => zRt x1 s2
def m_X7_closeYear_j12 (n : Nat) : Nat → Int32 → Int32 → zS → Option (Int32 × zS)
  | 0, _, _, _ => none
  | f + 1, v1, v2, s =>
    if (16 : Int32) ≤ v2 then (zBd (m_X0_endYear n s) fun x2 s3 => zRt v1 s3) else (zBd (m_X5_kind n v2 s) fun x4 s5 => if x4 = (7 : Int32) then (zBd (m_X6_of n v2 s5) fun x8 s9 => zBd (m_X0_take n x8 s9) fun x10 s11 => zLt (v1 + x10) fun x12 => zLt (v2 + (1 : Int32)) fun x13 => m_X7_closeYear_j12 n f x12 x13 s11) else (zLt (v2 + (1 : Int32)) fun x7 => m_X7_closeYear_j12 n f v1 x7 s5))
def m_X7_closeYear (n : Nat)  (s : zS) : Option (Int32 × zS) :=
  zBd (m_X6_workOut n (-1 : Int32) s) fun x14 s15 => m_X7_closeYear_j12  n n (0 : Int32) (0 : Int32) s15
def m_X7_addCredit_j45 (n : Nat) (v1 : Int32) (v2 : Int32) (t0 : Int32) (s : zS) : Option ((Int32 ⊕ Nat) × zS) :=
  zBx (m_X7_checkState n t0 s) fun x1 s2 => zBd (m_X2_add n v1 v2 s2) fun x3 s4 => zBd (m_X2_size n s4) fun x5 s6 => zRx (x5 - (1 : Int32)) s6
def m_X7_addCredit_j26 (n : Nat) (v1 : Int32) (v2 : Int32) (t0 : Int32) (s : zS) : Option ((Int32 ⊕ Nat) × zS) :=
  zBx (m_X7_checkArgument n t0 s) fun x7 s8 => zBd (m_X2_size n s8) fun x9 s10 => if (5 : Int32) ≤ x9 then (m_X7_addCredit_j45  n v1 v2 (0 : Int32) s10) else (m_X7_addCredit_j45  n v1 v2 (1 : Int32) s10)
def m_X7_addCredit (n : Nat) (v1 : Int32) (v2 : Int32) (s : zS) : Option ((Int32 ⊕ Nat) × zS) :=
  zBd (m_X7_isWithin n v1 (1 : Int32) (1000000 : Int32) s) fun x12 s13 => if x12 = 0 then (m_X7_addCredit_j26  n v1 v2 (0 : Int32) s13) else (zBd (m_X7_isWithin n v2 (0 : Int32) (1000 : Int32) s13) fun x15 s16 => if x15 = 0 then (m_X7_addCredit_j26  n v1 v2 (0 : Int32) s16) else (m_X7_addCredit_j26  n v1 v2 (1 : Int32) s16))
def m_X7_dropCredit (n : Nat)  (s : zS) : Option ((Int32 ⊕ Nat) × zS) :=
  zBd (m_X2_size n s) fun x1 s2 => if x1 ≤ 0 then (zBx (m_X7_checkState n (0 : Int32) s2) fun x4 s5 => zBd (m_X2_dropLast n s5) fun x6 s7 => zBd (m_X2_size n s7) fun x8 s9 => zRx x8 s9) else (zBx (m_X7_checkState n (1 : Int32) s2) fun x10 s11 => zBd (m_X2_dropLast n s11) fun x12 s13 => zBd (m_X2_size n s13) fun x14 s15 => zRx x14 s15)
def m_X7_creditAt_j24 (n : Nat) (v1 : Int32) (v2 : Int32) (t0 : Int32) (s : zS) : Option ((Int32 ⊕ Nat) × zS) :=
  zBx (m_X7_checkPlace n t0 s) fun x1 s2 => zBd (m_X6_workOut n (-1 : Int32) s2) fun x3 s4 => zBd (m_X6_of n v1 s4) fun x5 s6 => zBd (m_X2_findBest n x5 s6) fun x7 s8 => zBd (m_X2_bestAt n v2 s8) fun x9 s10 => zRx x9 s10
def m_X7_creditAt (n : Nat) (v1 : Int32) (v2 : Int32) (s : zS) : Option ((Int32 ⊕ Nat) × zS) :=
  zBx (m_X7_checkLine n v1 s) fun x11 s12 => if v2 < 0 then (m_X7_creditAt_j24  n v1 v2 (0 : Int32) s12) else (zBd (m_X2_size n s12) fun x14 s15 => if x14 ≤ v2 then (m_X7_creditAt_j24  n v1 v2 (0 : Int32) s15) else (m_X7_creditAt_j24  n v1 v2 (1 : Int32) s15))
def m_X7_afterCredits (n : Nat) (v1 : Int32) (s : zS) : Option ((Int32 ⊕ Nat) × zS) :=
  zBx (m_X7_checkLine n v1 s) fun x1 s2 => zBd (m_X6_workOut n (-1 : Int32) s2) fun x3 s4 => zBd (m_X6_of n v1 s4) fun x5 s6 => zBd (m_X2_total n s6) fun x7 s8 => zRx (x5 - (if x7 < x5 then x7 else x5)) s8
def m_X7_bestSum (n : Nat) (v1 : Int32) (s : zS) : Option ((Int32 ⊕ Nat) × zS) :=
  zBx (m_X7_checkLine n v1 s) fun x1 s2 => zBd (m_X6_workOut n (-1 : Int32) s2) fun x3 s4 => zBd (m_X6_of n v1 s4) fun x5 s6 => zBd (m_X2_findBest n x5 s6) fun x7 s8 => zRx x7 s8
def m_X8_thrown (n : Nat)  (s : zS) : Option (Int32 × zS) :=
  zRt (s 0 23) s
def m_X8_isIn (n : Nat) (v0 : Int32) (v1 : Int32) (v2 : Int32) (s : zS) : Option (Int32 × zS) :=
  if v0 < v1 then (zRt (0 : Int32) s) else (if v2 < v0 then (zRt (0 : Int32) s) else (zRt (1 : Int32) s))
def m_X8_isLine (n : Nat) (v0 : Int32) (s : zS) : Option (Int32 × zS) :=
  zBd (m_X8_isIn n v0 (0 : Int32) (15 : Int32) s) fun x1 s2 => zGd (vp_nar .boolean x1 = x1) (zRt x1 s2)
def m_X8_usesFirst (n : Nat) (v1 : Int32) (s : zS) : Option (Int32 × zS) :=
  zRd (s 1) v1 16 fun x1 => if x1 = 0 then (zRt (0 : Int32) s) else (zRt (1 : Int32) s)
def m_X8_usesSecond_j33 (n : Nat)  (s : zS) : Option (Int32 × zS) :=
  zRt (1 : Int32) s
def m_X8_usesSecond (n : Nat) (v1 : Int32) (s : zS) : Option (Int32 × zS) :=
  zRd (s 1) v1 16 fun x1 => if x1 = (1 : Int32) then (m_X8_usesSecond_j33  n s) else (if x1 = (2 : Int32) then (m_X8_usesSecond_j33  n s) else (if x1 = (4 : Int32) then (m_X8_usesSecond_j33  n s) else (if x1 = (5 : Int32) then (m_X8_usesSecond_j33  n s) else (if x1 = (8 : Int32) then (m_X8_usesSecond_j33  n s) else (zRt (0 : Int32) s)))))
def m_X8_laysNeeds_j93 (rec76 : Int32 → zS → Option (Int32 × zS)) (rec84 : Int32 → Int32 → zS → Option (Int32 × zS)) (n : Nat) : Nat → Int32 → Int32 → Int32 → zS → Option (Int32 × zS)
  | 0, _, _, _, _ => none
  | f + 1, v2, v3, v4, s =>
    if (16 : Int32) ≤ v4 then (zLt (v3 + (1 : Int32)) fun x2 => rec84 v2 x2 s) else (zRd (s 13) v3 16 fun x3 => zRd (s 13) v3 16 fun x4 => if ((x4 >>> (v4 &&& 31)) &&& (1 : Int32)) = (1 : Int32) then (zRd (s 13) v4 16 fun x8 => zWr s 13 v3 16 (x3 ||| x8) fun s9 => zLt (v4 + (1 : Int32)) fun x10 => m_X8_laysNeeds_j93 rec76 rec84 n f v2 v3 x10 s9) else (zWr s 13 v3 16 (x3 ||| (0 : Int32)) fun s6 => zLt (v4 + (1 : Int32)) fun x7 => m_X8_laysNeeds_j93 rec76 rec84 n f v2 v3 x7 s6))
def m_X8_laysNeeds_j84 (rec76 : Int32 → zS → Option (Int32 × zS)) (n : Nat) : Nat → Int32 → Int32 → zS → Option (Int32 × zS)
  | 0, _, _, _ => none
  | f + 1, v2, v3, s =>
    if (16 : Int32) ≤ v3 then (zLt (v2 + (1 : Int32)) fun x12 => rec76 x12 s) else (m_X8_laysNeeds_j93 rec76 (m_X8_laysNeeds_j84 rec76 n f) n n v2 v3 (0 : Int32) s)
def m_X8_laysNeeds_j76 (n : Nat) : Nat → Int32 → zS → Option (Int32 × zS)
  | 0, _, _ => none
  | f + 1, v2, s =>
    if (16 : Int32) ≤ v2 then (zRt 0 s) else (m_X8_laysNeeds_j84 (m_X8_laysNeeds_j76 n f) n n v2 (0 : Int32) s)
def m_X8_laysNeeds_j33 (rec2 : Int32 → Int32 → zS → Option (Int32 × zS)) (n : Nat) (v1 : Int32) (v2 : Int32) (t1 : Int32) (t2 : Int32) (s : zS) : Option (Int32 × zS) :=
  zWr s 13 t1 16 t2 fun s14 => zRd (s14 13) v2 16 fun x15 => zBd (m_X8_usesSecond n v2 s14) fun x16 s17 => if x16 = 0 then (zWr s17 13 v2 16 (x15 ||| (0 : Int32)) fun s19 => zLt (v2 + (1 : Int32)) fun x20 => rec2 v1 x20 s19) else (if v2 = v1 then (zWr s17 13 v2 16 (x15 ||| (0 : Int32)) fun s22 => zLt (v2 + (1 : Int32)) fun x23 => rec2 v1 x23 s22) else (zRd (s17 3) v2 16 fun x24 => zWr s17 13 v2 16 (x15 ||| ((1 : Int32) <<< (x24 &&& 31))) fun s25 => zLt (v2 + (1 : Int32)) fun x26 => rec2 v1 x26 s25))
def m_X8_laysNeeds_j2 (n : Nat) : Nat → Int32 → Int32 → zS → Option (Int32 × zS)
  | 0, _, _, _ => none
  | f + 1, v1, v2, s =>
    if (16 : Int32) ≤ v2 then (m_X8_laysNeeds_j76  n n (0 : Int32) s) else (zBd (m_X8_usesFirst n v2 s) fun x28 s29 => if x28 = 0 then (m_X8_laysNeeds_j33 (m_X8_laysNeeds_j2 n f) n v1 v2 v2 (0 : Int32) s29) else (zRd (s29 2) v2 16 fun x31 => m_X8_laysNeeds_j33 (m_X8_laysNeeds_j2 n f) n v1 v2 v2 ((1 : Int32) <<< (x31 &&& 31)) s29))
def m_X8_laysNeeds (n : Nat) (v1 : Int32) (s : zS) : Option (Int32 × zS) :=
  m_X8_laysNeeds_j2  n n v1 (0 : Int32) s
def m_X8_depends (n : Nat) (v1 : Int32) (v2 : Int32) (s : zS) : Option (Int32 × zS) :=
  zRd (s 13) v1 16 fun x1 => if ((x1 >>> (v2 &&& 31)) &&& (1 : Int32)) = (1 : Int32) then (zRt (1 : Int32) s) else (zRt (0 : Int32) s)
def m_X8_circle_j4 (n : Nat) : Nat → Int32 → Int32 → Int32 → zS → Option (Int32 × zS)
  | 0, _, _, _, _ => none
  | f + 1, v1, v2, v3, s =>
    if (16 : Int32) ≤ v3 then (zRt v2 s) else (zBd (m_X8_depends n v1 v3 s) fun x2 s3 => if x2 = 0 then (zLt (v2 ||| (0 : Int32)) fun x5 => zLt (v3 + (1 : Int32)) fun x6 => m_X8_circle_j4 n f v1 x5 x6 s3) else (zBd (m_X8_depends n v3 v1 s3) fun x7 s8 => if x7 = 0 then (zLt (v2 ||| (0 : Int32)) fun x10 => zLt (v3 + (1 : Int32)) fun x11 => m_X8_circle_j4 n f v1 x10 x11 s8) else (zLt (v2 ||| ((1 : Int32) <<< (v3 &&& 31))) fun x12 => zLt (v3 + (1 : Int32)) fun x13 => m_X8_circle_j4 n f v1 x12 x13 s8)))
def m_X8_circle (n : Nat) (v1 : Int32) (s : zS) : Option (Int32 × zS) :=
  m_X8_circle_j4  n n v1 (0 : Int32) (0 : Int32) s
def m_X8_turned (n : Nat) (v0 : Int32) (s : zS) : Option (Int32 × zS) :=
  zRt (((v0 &&& (1 : Int32)) * (2 : Int32)) + (v0 >>> ((1 : Int32) &&& 31))) s
def m_X8_isFalling_j199 (n : Nat) : Nat → Int32 → Int32 → Int32 → zS → Option (Int32 × zS)
  | 0, _, _, _, _ => none
  | f + 1, v1, v3, v4, s =>
    if (16 : Int32) ≤ v4 then (zGd (vp_nar .boolean v3 = v3) (zRt v3 s)) else (zRd (s 14) v4 16 fun x3 => if x3 = (3 : Int32) then (zLt (v3 &&& (0 : Int32)) fun x5 => zLt (v4 + (1 : Int32)) fun x6 => m_X8_isFalling_j199 n f v1 x5 x6 s) else (if ((v1 >>> (v4 &&& 31)) &&& (1 : Int32)) = (1 : Int32) then (zBd (m_X8_depends n v4 v4 s) fun x10 s11 => if x10 = 0 then (zLt (v3 &&& (1 : Int32)) fun x15 => zLt (v4 + (1 : Int32)) fun x16 => m_X8_isFalling_j199 n f v1 x15 x16 s11) else (zLt (v3 &&& (0 : Int32)) fun x13 => zLt (v4 + (1 : Int32)) fun x14 => m_X8_isFalling_j199 n f v1 x13 x14 s11)) else (zLt (v3 &&& (1 : Int32)) fun x8 => zLt (v4 + (1 : Int32)) fun x9 => m_X8_isFalling_j199 n f v1 x8 x9 s)))
def m_X8_isFalling_j161 (rec32 : Int32 → Int32 → Int32 → zS → Option (Int32 × zS)) (rec41 : Int32 → Int32 → Int32 → Int32 → zS → Option (Int32 × zS)) (n : Nat) (v1 : Int32) (v2 : Int32) (v3 : Int32) (v4 : Int32) (t1 : Int32) (t2 : Int32) (t3 : Int32) (s : zS) : Option (Int32 × zS) :=
  zWr s 14 t1 16 (t2 ||| t3) fun s17 => zLt (v4 + (1 : Int32)) fun x18 => rec41 v1 v2 v3 x18 s17
def m_X8_isFalling_j97 (rec32 : Int32 → Int32 → Int32 → zS → Option (Int32 × zS)) (rec41 : Int32 → Int32 → Int32 → Int32 → zS → Option (Int32 × zS)) (n : Nat) (v1 : Int32) (v2 : Int32) (v3 : Int32) (v4 : Int32) (t1 : Int32) (t2 : Int32) (t3 : Int32) (s : zS) : Option (Int32 × zS) :=
  zWr s 14 t1 16 (t2 ||| t3) fun s19 => zRd (s19 14) v4 16 fun x20 => zBd (m_X8_usesSecond n v4 s19) fun x21 s22 => if x21 = 0 then (m_X8_isFalling_j161 rec32 rec41 n v1 v2 v3 v4 v4 x20 (0 : Int32) s22) else (zRd (s22 1) v4 16 fun x24 => if x24 = (2 : Int32) then (zRd (s22 3) v4 16 fun x28 => zRd (s22 14) x28 16 fun x29 => zBd (m_X8_turned n x29 s22) fun x30 s31 => m_X8_isFalling_j161 rec32 rec41 n v1 v2 v3 v4 v4 x20 x30 s31) else (zRd (s22 3) v4 16 fun x26 => zRd (s22 14) x26 16 fun x27 => m_X8_isFalling_j161 rec32 rec41 n v1 v2 v3 v4 v4 x20 x27 s22))
def m_X8_isFalling_j41 (rec32 : Int32 → Int32 → Int32 → zS → Option (Int32 × zS)) (n : Nat) : Nat → Int32 → Int32 → Int32 → Int32 → zS → Option (Int32 × zS)
  | 0, _, _, _, _, _ => none
  | f + 1, v1, v2, v3, v4, s =>
    if (16 : Int32) ≤ v4 then (zLt (v3 + (1 : Int32)) fun x33 => rec32 v1 v2 x33 s) else (if ((v1 >>> (v4 &&& 31)) &&& (1 : Int32)) = (1 : Int32) then (if v4 = v2 then (zLt (v4 + (1 : Int32)) fun x37 => m_X8_isFalling_j41 rec32 n f v1 v2 v3 x37 s) else (zRd (s 14) v4 16 fun x38 => zBd (m_X8_usesFirst n v4 s) fun x39 s40 => if x39 = 0 then (m_X8_isFalling_j97 rec32 (m_X8_isFalling_j41 rec32 n f) n v1 v2 v3 v4 v4 x38 (0 : Int32) s40) else (zRd (s40 2) v4 16 fun x42 => zRd (s40 14) x42 16 fun x43 => m_X8_isFalling_j97 rec32 (m_X8_isFalling_j41 rec32 n f) n v1 v2 v3 v4 v4 x38 x43 s40))) else (zLt (v4 + (1 : Int32)) fun x35 => m_X8_isFalling_j41 rec32 n f v1 v2 v3 x35 s))
def m_X8_isFalling_j32 (n : Nat) : Nat → Int32 → Int32 → Int32 → zS → Option (Int32 × zS)
  | 0, _, _, _, _ => none
  | f + 1, v1, v2, v3, s =>
    if (16 : Int32) ≤ v3 then (zRd (s 3) v2 16 fun x45 => zRd (s 14) x45 16 fun x46 => if x46 = (2 : Int32) then (m_X8_isFalling_j199  n n v1 (1 : Int32) (0 : Int32) s) else (m_X8_isFalling_j199  n n v1 (0 : Int32) (0 : Int32) s)) else (m_X8_isFalling_j41 (m_X8_isFalling_j32 n f) n n v1 v2 v3 (0 : Int32) s)
def m_X8_isFalling_j2 (n : Nat) : Nat → Int32 → Int32 → Int32 → zS → Option (Int32 × zS)
  | 0, _, _, _, _ => none
  | f + 1, v1, v2, v3, s =>
    if (16 : Int32) ≤ v3 then (m_X8_isFalling_j32  n n v1 v2 (0 : Int32) s) else (if v3 = v2 then (zWr s 14 v3 16 (1 : Int32) fun s52 => zLt (v3 + (1 : Int32)) fun x53 => m_X8_isFalling_j2 n f v1 v2 x53 s52) else (zWr s 14 v3 16 (0 : Int32) fun s50 => zLt (v3 + (1 : Int32)) fun x51 => m_X8_isFalling_j2 n f v1 v2 x51 s50))
def m_X8_isFalling (n : Nat) (v1 : Int32) (v2 : Int32) (s : zS) : Option (Int32 × zS) :=
  m_X8_isFalling_j2  n n v1 v2 (0 : Int32) s
def m_X8_isAllowed_j136 (rec4 : Int32 → Int32 → zS → Option (Int32 × zS)) (n : Nat) (v2 : Int32) (v3 : Int32) (v4 : Int32) (v5 : Int32) (t0 : Int32) (t1 : Int32) (s : zS) : Option (Int32 × zS) :=
  zLt (t0 &&& t1) fun x1 => zBd (m_X8_laysNeeds n v5 s) fun x2 s3 => if v4 = (1 : Int32) then (zBd (m_X8_isFalling n v3 v5 s3) fun x7 s8 => if x7 = 0 then (zLt (x1 &&& (0 : Int32)) fun x10 => zLt (v2 + (1 : Int32)) fun x11 => rec4 x10 x11 s8) else (zLt (x1 &&& (1 : Int32)) fun x12 => zLt (v2 + (1 : Int32)) fun x13 => rec4 x12 x13 s8)) else (zLt (x1 &&& (0 : Int32)) fun x5 => zLt (v2 + (1 : Int32)) fun x6 => rec4 x5 x6 s3)
def m_X8_isAllowed_j87 (rec4 : Int32 → Int32 → zS → Option (Int32 × zS)) (rec39 : Int32 → Int32 → Int32 → Int32 → Int32 → Int32 → zS → Option (Int32 × zS)) (n : Nat) (v1 : Int32) (v2 : Int32) (v3 : Int32) (v5 : Int32) (v6 : Int32) (v7 : Int32) (t0 : Int32) (t1 : Int32) (s : zS) : Option (Int32 × zS) :=
  zLt (t0 + t1) fun x14 => if v7 = 0 then (zLt (v6 + (1 : Int32)) fun x16 => rec39 v1 v2 v3 x14 v5 x16 s) else (zLt (v6 + (1 : Int32)) fun x17 => rec39 v1 v2 v3 x14 v6 x17 s)
def m_X8_isAllowed_j73 (rec4 : Int32 → Int32 → zS → Option (Int32 × zS)) (rec39 : Int32 → Int32 → Int32 → Int32 → Int32 → Int32 → zS → Option (Int32 × zS)) (n : Nat) (v1 : Int32) (v2 : Int32) (v3 : Int32) (v4 : Int32) (v5 : Int32) (v6 : Int32) (t0 : Int32) (s : zS) : Option (Int32 × zS) :=
  if t0 = 0 then (m_X8_isAllowed_j87 rec4 rec39 n v1 v2 v3 v5 v6 t0 v4 (0 : Int32) s) else (m_X8_isAllowed_j87 rec4 rec39 n v1 v2 v3 v5 v6 t0 v4 (1 : Int32) s)
def m_X8_isAllowed_j39 (rec4 : Int32 → Int32 → zS → Option (Int32 × zS)) (n : Nat) : Nat → Int32 → Int32 → Int32 → Int32 → Int32 → Int32 → zS → Option (Int32 × zS)
  | 0, _, _, _, _, _, _, _ => none
  | f + 1, v1, v2, v3, v4, v5, v6, s =>
    if (16 : Int32) ≤ v6 then (if v4 = (1 : Int32) then (zRd (s 2) v5 16 fun x21 => if ((v3 >>> (x21 &&& 31)) &&& (1 : Int32)) = 0 then (m_X8_isAllowed_j136 rec4 n v2 v3 v4 v5 v1 (1 : Int32) s) else (m_X8_isAllowed_j136 rec4 n v2 v3 v4 v5 v1 (0 : Int32) s)) else (m_X8_isAllowed_j136 rec4 n v2 v3 v4 v5 v1 (0 : Int32) s)) else (if ((v3 >>> (v6 &&& 31)) &&& (1 : Int32)) = (1 : Int32) then (zRd (s 1) v6 16 fun x24 => if x24 = (8 : Int32) then (m_X8_isAllowed_j73 rec4 (m_X8_isAllowed_j39 rec4 n f) n v1 v2 v3 v4 v5 v6 (1 : Int32) s) else (m_X8_isAllowed_j73 rec4 (m_X8_isAllowed_j39 rec4 n f) n v1 v2 v3 v4 v5 v6 (0 : Int32) s)) else (m_X8_isAllowed_j73 rec4 (m_X8_isAllowed_j39 rec4 n f) n v1 v2 v3 v4 v5 v6 (0 : Int32) s))
def m_X8_isAllowed_j4 (n : Nat) : Nat → Int32 → Int32 → zS → Option (Int32 × zS)
  | 0, _, _, _ => none
  | f + 1, v1, v2, s =>
    if (16 : Int32) ≤ v2 then (zGd (vp_nar .boolean v1 = v1) (zRt v1 s)) else (zBd (m_X8_laysNeeds n (-1 : Int32) s) fun x28 s29 => zBd (m_X8_depends n v2 v2 s29) fun x30 s31 => if x30 = 0 then (zLt (v2 + (1 : Int32)) fun x33 => m_X8_isAllowed_j4 n f v1 x33 s31) else (zBd (m_X8_circle n v2 s31) fun x34 s35 => m_X8_isAllowed_j39 (m_X8_isAllowed_j4 n f) n n v1 v2 x34 (0 : Int32) (0 : Int32) (0 : Int32) s35))
def m_X8_isAllowed (n : Nat)  (s : zS) : Option (Int32 × zS) :=
  m_X8_isAllowed_j4  n n (1 : Int32) (0 : Int32) s
def m_X8_define_j122 (n : Nat) (v1 : Int32) (v2 : Int32) (v3 : Int32) (v4 : Int32) (t1 : Int32) (s : zS) : Option (Int32 × zS) :=
  zLt (zU s 0 23 t1) fun s1 => if (s1 0 23) ≤ 0 then (zRd (s1 1) v1 16 fun x3 => zRd (s1 2) v1 16 fun x4 => zRd (s1 3) v1 16 fun x5 => zWr s1 1 v1 16 v2 fun s6 => zWr s6 2 v1 16 v3 fun s7 => zWr s7 3 v1 16 v4 fun s8 => zBd (m_X8_isAllowed n s8) fun x9 s10 => if x9 = 0 then (zWr s10 1 v1 16 x3 fun s12 => zWr s12 2 v1 16 x4 fun s13 => zWr s13 3 v1 16 x5 fun s14 => zLt (zU s14 0 23 (3 : Int32)) fun s15 => zRt 0 s15) else (zRt 0 s10)) else (zRt 0 s1)
def m_X8_define_j83 (n : Nat) (v1 : Int32) (v2 : Int32) (v3 : Int32) (v4 : Int32) (v6 : Int32) (t0 : Int32) (s : zS) : Option (Int32 × zS) :=
  if t0 = 0 then (m_X8_define_j122  n v1 v2 v3 v4 (1 : Int32) s) else (if v6 = 0 then (m_X8_define_j122  n v1 v2 v3 v4 (2 : Int32) s) else (if v2 = (3 : Int32) then (zBd (m_X8_isIn n v4 (0 : Int32) (1000 : Int32) s) fun x19 s20 => if x19 = 0 then (m_X8_define_j122  n v1 v2 v3 v4 (2 : Int32) s20) else (m_X8_define_j122  n v1 v2 v3 v4 (0 : Int32) s20)) else (m_X8_define_j122  n v1 v2 v3 v4 (0 : Int32) s)))
def m_X8_define_j65 (n : Nat) (v1 : Int32) (v2 : Int32) (v3 : Int32) (v4 : Int32) (v5 : Int32) (v6 : Int32) (s : zS) : Option (Int32 × zS) :=
  if v5 = 0 then (m_X8_define_j83  n v1 v2 v3 v4 v6 (1 : Int32) s) else (zBd (m_X8_isLine n v4 s) fun x23 s24 => if x23 = 0 then (m_X8_define_j83  n v1 v2 v3 v4 v6 (0 : Int32) s24) else (m_X8_define_j83  n v1 v2 v3 v4 v6 (1 : Int32) s24))
def m_X8_define_j31 (n : Nat) (v1 : Int32) (v2 : Int32) (v3 : Int32) (v4 : Int32) (t0 : Int32) (s : zS) : Option (Int32 × zS) :=
  zBd (m_X8_isIn n v2 (0 : Int32) (8 : Int32) s) fun x26 s27 => zBd (m_X8_isLine n v1 s27) fun x28 s29 => if x28 = 0 then (m_X8_define_j83  n v1 v2 v3 v4 x26 (0 : Int32) s29) else (if x26 = 0 then (m_X8_define_j65  n v1 v2 v3 v4 t0 x26 s29) else (if v2 = 0 then (m_X8_define_j65  n v1 v2 v3 v4 t0 x26 s29) else (zBd (m_X8_isLine n v3 s29) fun x33 s34 => if x33 = 0 then (m_X8_define_j83  n v1 v2 v3 v4 x26 (0 : Int32) s34) else (m_X8_define_j65  n v1 v2 v3 v4 t0 x26 s34))))
def m_X8_define_j26 (n : Nat) (v1 : Int32) (v2 : Int32) (v3 : Int32) (v4 : Int32) (s : zS) : Option (Int32 × zS) :=
  m_X8_define_j31  n v1 v2 v3 v4 (1 : Int32) s
def m_X8_define (n : Nat) (v1 : Int32) (v2 : Int32) (v3 : Int32) (v4 : Int32) (s : zS) : Option (Int32 × zS) :=
  if v2 = (1 : Int32) then (m_X8_define_j26  n v1 v2 v3 v4 s) else (if v2 = (2 : Int32) then (m_X8_define_j26  n v1 v2 v3 v4 s) else (if v2 = (4 : Int32) then (m_X8_define_j26  n v1 v2 v3 v4 s) else (if v2 = (5 : Int32) then (m_X8_define_j26  n v1 v2 v3 v4 s) else (if v2 = (8 : Int32) then (m_X8_define_j26  n v1 v2 v3 v4 s) else (m_X8_define_j31  n v1 v2 v3 v4 (0 : Int32) s)))))
def m_X8_answer_j27 (n : Nat) (v1 : Int32) (v2 : Int32) (t1 : Int32) (s : zS) : Option (Int32 × zS) :=
  zLt (zU s 0 23 t1) fun s1 => if (s1 0 23) ≤ 0 then (zRd (s1 4) v1 16 fun x3 => zWr s1 4 v1 16 v2 fun s4 => zRt x3 s4) else (zRt (0 : Int32) s1)
def m_X8_answer (n : Nat) (v1 : Int32) (v2 : Int32) (s : zS) : Option (Int32 × zS) :=
  zBd (m_X8_isLine n v1 s) fun x5 s6 => if x5 = 0 then (m_X8_answer_j27  n v1 v2 (1 : Int32) s6) else (zBd (m_X8_isIn n v2 (0 : Int32) (1000000 : Int32) s6) fun x8 s9 => if x8 = 0 then (m_X8_answer_j27  n v1 v2 (2 : Int32) s9) else (m_X8_answer_j27  n v1 v2 (0 : Int32) s9))
def m_X8_kindOf_j13 (n : Nat) (v1 : Int32) (t1 : Int32) (s : zS) : Option (Int32 × zS) :=
  zLt (zU s 0 23 t1) fun s1 => if (s1 0 23) ≤ 0 then (zRd (s1 1) v1 16 fun x3 => zRt x3 s1) else (zRt (0 : Int32) s1)
def m_X8_kindOf (n : Nat) (v1 : Int32) (s : zS) : Option (Int32 × zS) :=
  zBd (m_X8_isLine n v1 s) fun x4 s5 => if x4 = 0 then (m_X8_kindOf_j13  n v1 (1 : Int32) s5) else (m_X8_kindOf_j13  n v1 (0 : Int32) s5)
def m_X8_taxed_j115 (rec4 : Int32 → Int32 → Int32 → zS → Option (Int32 × zS)) (n : Nat) (v1 : Int32) (v2 : Int32) (v3 : Int32) (t0 : Int64) (s : zS) : Option (Int32 × zS) :=
  zRd (s 6) v3 5 fun x1 => zLt (v2 + (Int64.toInt32 ((t0 * (Int32.toInt64 x1)) / (1000 : Int64)))) fun x2 => zLt (v3 + (1 : Int32)) fun x3 => rec4 v1 x2 x3 s
def m_X8_taxed_j88 (rec4 : Int32 → Int32 → Int32 → zS → Option (Int32 × zS)) (n : Nat) (v1 : Int32) (v2 : Int32) (v3 : Int32) (t0 : Int32) (s : zS) : Option (Int32 × zS) :=
  zRd (s 5) v3 5 fun x4 => if t0 ≤ x4 then (m_X8_taxed_j115 rec4 n v1 v2 v3 (0 : Int64) s) else (zRd (s 5) v3 5 fun x6 => m_X8_taxed_j115 rec4 n v1 v2 v3 (Int32.toInt64 (t0 - x6)) s)
def m_X8_taxed_j19 (rec4 : Int32 → Int32 → Int32 → zS → Option (Int32 × zS)) (n : Nat) : Nat → Int32 → Int32 → Int32 → Int32 → Int32 → zS → Option (Int32 × zS)
  | 0, _, _, _, _, _, _ => none
  | f + 1, v1, v2, v3, v4, v5, s =>
    if (s 0 4) ≤ v5 then (if v4 ≤ v1 then (m_X8_taxed_j88 rec4 n v1 v2 v3 v4 s) else (m_X8_taxed_j88 rec4 n v1 v2 v3 v1 s)) else (zRd (s 5) v5 5 fun x9 => zRd (s 5) v3 5 fun x10 => if x9 ≤ x10 then (zLt (v5 + (1 : Int32)) fun x12 => m_X8_taxed_j19 rec4 n f v1 v2 v3 v4 x12 s) else (zRd (s 5) v5 5 fun x13 => if v4 ≤ x13 then (zLt (v5 + (1 : Int32)) fun x15 => m_X8_taxed_j19 rec4 n f v1 v2 v3 v4 x15 s) else (zRd (s 5) v5 5 fun x16 => zLt (v5 + (1 : Int32)) fun x17 => m_X8_taxed_j19 rec4 n f v1 v2 v3 x16 x17 s)))
def m_X8_taxed_j4 (n : Nat) : Nat → Int32 → Int32 → Int32 → zS → Option (Int32 × zS)
  | 0, _, _, _, _ => none
  | f + 1, v1, v2, v3, s =>
    if (s 0 4) ≤ v3 then (zRt v2 s) else (m_X8_taxed_j19 (m_X8_taxed_j4 n f) n n v1 v2 v3 (1000000000 : Int32) (0 : Int32) s)
def m_X8_taxed (n : Nat) (v1 : Int32) (s : zS) : Option (Int32 × zS) :=
  m_X8_taxed_j4  n n v1 (0 : Int32) (0 : Int32) s
def m_X8_all_j4 (n : Nat) : Nat → Int32 → Int32 → zS → Option (Int32 × zS)
  | 0, _, _, _ => none
  | f + 1, v1, v2, s =>
    if (s 0 8) ≤ v2 then (zRt v1 s) else (zRd (s 7) v2 8 fun x2 => zLt (v1 + x2) fun x3 => zLt (v2 + (1 : Int32)) fun x4 => m_X8_all_j4 n f x3 x4 s)
def m_X8_all (n : Nat)  (s : zS) : Option (Int32 × zS) :=
  m_X8_all_j4  n n (0 : Int32) (0 : Int32) s
def m_X8_works_j190 (n : Nat) (v4 : Int32) (t0 : Int32) (s : zS) : Option (Int32 × zS) :=
  if t0 ≤ v4 then (zRt t0 s) else (zRt v4 s)
def m_X8_works_j59 (n : Nat) (v1 : Int32) (v3 : Int32) (v4 : Int32) (t0 : Int32) (s : zS) : Option (Int32 × zS) :=
  if v3 = 0 then (zRd (s 4) v1 16 fun x17 => zRt x17 s) else (if v3 = (1 : Int32) then (if v4 ≤ ((1000000000 : Int32) - t0) then (zRt (v4 + t0) s) else (zRt (1000000000 : Int32) s)) else (if v3 = (2 : Int32) then (if v4 ≤ t0 then (zRt (0 : Int32) s) else (zRt (v4 - t0) s)) else (if v3 = (3 : Int32) then (zRd (s 3) v1 16 fun x14 => zRt (Int64.toInt32 (((Int32.toInt64 v4) * (Int32.toInt64 x14)) / (1000 : Int64))) s) else (if v3 = (5 : Int32) then (if v4 ≤ t0 then (zRt t0 s) else (zRt v4 s)) else (if v3 = (6 : Int32) then (zBd (m_X8_taxed n v4 s) fun x11 s12 => zRt x11 s12) else (if v3 = (7 : Int32) then (zBd (m_X8_all n s) fun x9 s10 => m_X8_works_j190  n v4 x9 s10) else (m_X8_works_j190  n v4 t0 s)))))))
def m_X8_works_j32 (n : Nat) (v1 : Int32) (v2 : Int32) (v3 : Int32) (t0 : Int32) (s : zS) : Option (Int32 × zS) :=
  zBd (m_X8_usesSecond n v1 s) fun x18 s19 => if x18 = 0 then (m_X8_works_j59  n v1 v3 t0 (0 : Int32) s19) else (zRd (s19 3) v1 16 fun x21 => zRd (s19 11) (v2 + x21) 32 fun x22 => m_X8_works_j59  n v1 v3 t0 x22 s19)
def m_X8_works (n : Nat) (v1 : Int32) (v2 : Int32) (s : zS) : Option (Int32 × zS) :=
  zRd (s 1) v1 16 fun x23 => zBd (m_X8_usesFirst n v1 s) fun x24 s25 => if x24 = 0 then (m_X8_works_j32  n v1 v2 x23 (0 : Int32) s25) else (zRd (s25 2) v1 16 fun x27 => zRd (s25 11) (v2 + x27) 32 fun x28 => m_X8_works_j32  n v1 v2 x23 x28 s25)
def m_X8_passes_j78 (rec2 : Int32 → Int32 → zS → Option (Int32 × zS)) (rec10 : Int32 → Int32 → Int32 → zS → Option (Int32 × zS)) (n : Nat) (v1 : Int32) (v2 : Int32) (v3 : Int32) (t0 : Int32) (t1 : Int32) (s : zS) : Option (Int32 × zS) :=
  zLt (t0 &&& t1) fun x1 => if x1 = 0 then (zLt (v3 + (1 : Int32)) fun x3 => rec10 v1 v2 x3 s) else (zRd (s 12) (v1 + v3) 32 fun x4 => if x4 = 0 then (zBd (m_X8_works n v3 v1 s) fun x7 s8 => zWr s8 11 (v1 + v3) 32 x7 fun s9 => zWr s9 12 (v1 + v3) 32 (vp_nar .boolean (1 : Int32)) fun s10 => zLt (v3 + (1 : Int32)) fun x11 => rec10 v1 v2 x11 s10) else (zLt (v3 + (1 : Int32)) fun x6 => rec10 v1 v2 x6 s))
def m_X8_passes_j45 (rec2 : Int32 → Int32 → zS → Option (Int32 × zS)) (rec10 : Int32 → Int32 → Int32 → zS → Option (Int32 × zS)) (n : Nat) (v1 : Int32) (v2 : Int32) (v3 : Int32) (t0 : Int32) (s : zS) : Option (Int32 × zS) :=
  zBd (m_X8_usesSecond n v3 s) fun x12 s13 => if x12 = 0 then (m_X8_passes_j78 rec2 rec10 n v1 v2 v3 t0 (1 : Int32) s13) else (zRd (s13 3) v3 16 fun x15 => zRd (s13 12) (v1 + x15) 32 fun x16 => if x16 = 0 then (m_X8_passes_j78 rec2 rec10 n v1 v2 v3 t0 (0 : Int32) s13) else (m_X8_passes_j78 rec2 rec10 n v1 v2 v3 t0 (1 : Int32) s13))
def m_X8_passes_j10 (rec2 : Int32 → Int32 → zS → Option (Int32 × zS)) (n : Nat) : Nat → Int32 → Int32 → Int32 → zS → Option (Int32 × zS)
  | 0, _, _, _, _ => none
  | f + 1, v1, v2, v3, s =>
    if (16 : Int32) ≤ v3 then (zLt (v2 + (1 : Int32)) fun x19 => rec2 v1 x19 s) else (zBd (m_X8_usesFirst n v3 s) fun x20 s21 => if x20 = 0 then (m_X8_passes_j45 rec2 (m_X8_passes_j10 rec2 n f) n v1 v2 v3 (1 : Int32) s21) else (zRd (s21 2) v3 16 fun x23 => zRd (s21 12) (v1 + x23) 32 fun x24 => if x24 = 0 then (m_X8_passes_j45 rec2 (m_X8_passes_j10 rec2 n f) n v1 v2 v3 (0 : Int32) s21) else (m_X8_passes_j45 rec2 (m_X8_passes_j10 rec2 n f) n v1 v2 v3 (1 : Int32) s21)))
def m_X8_passes_j2 (n : Nat) : Nat → Int32 → Int32 → zS → Option (Int32 × zS)
  | 0, _, _, _ => none
  | f + 1, v1, v2, s =>
    if (16 : Int32) ≤ v2 then (zRt 0 s) else (m_X8_passes_j10 (m_X8_passes_j2 n f) n n v1 v2 (0 : Int32) s)
def m_X8_passes (n : Nat) (v1 : Int32) (s : zS) : Option (Int32 × zS) :=
  m_X8_passes_j2  n n v1 (0 : Int32) s
def m_X8_tries_j2 (n : Nat) : Nat → Int32 → Int32 → Int32 → zS → Option (Int32 × zS)
  | 0, _, _, _, _ => none
  | f + 1, v1, v2, v3, s =>
    if (16 : Int32) ≤ v3 then (zWr s 11 ((16 : Int32) + v1) 32 v2 fun s2 => zWr s2 12 ((16 : Int32) + v1) 32 (vp_nar .boolean (1 : Int32)) fun s3 => zBd (m_X8_passes n (16 : Int32) s3) fun x4 s5 => zRd (s5 3) v1 16 fun x6 => zRd (s5 12) ((16 : Int32) + x6) 32 fun x7 => zGd (vp_nar .boolean x7 = x7) (zRt x7 s5)) else (zRd (s 11) v3 32 fun x9 => zWr s 11 ((16 : Int32) + v3) 32 x9 fun s10 => zRd (s10 12) v3 32 fun x11 => zWr s10 12 ((16 : Int32) + v3) 32 (vp_nar .boolean x11) fun s12 => zLt (v3 + (1 : Int32)) fun x13 => m_X8_tries_j2 n f v1 v2 x13 s12)
def m_X8_tries (n : Nat) (v1 : Int32) (v2 : Int32) (s : zS) : Option (Int32 × zS) :=
  m_X8_tries_j2  n n v1 v2 (0 : Int32) s
def m_X8_halves_j14 (n : Nat) : Nat → Int32 → Int32 → Int32 → zS → Option (Int32 × zS)
  | 0, _, _, _, _ => none
  | f + 1, v1, v2, v3, s =>
    if v3 ≤ v2 then (zWr s 11 v1 32 v2 fun s2 => zWr s2 12 v1 32 (vp_nar .boolean (1 : Int32)) fun s3 => zRt 0 s3) else (zLt (v3 - ((v3 - v2) / (2 : Int32))) fun x4 => zBd (m_X8_tries n v1 x4 s) fun x5 s6 => zRd (s6 3) v1 16 fun x7 => zRd (s6 11) ((16 : Int32) + x7) 32 fun x8 => if x8 < x4 then (zLt (x4 - (1 : Int32)) fun x10 => m_X8_halves_j14 n f v1 v2 x10 s6) else (m_X8_halves_j14 n f v1 x4 v3 s6))
def m_X8_halves (n : Nat) (v1 : Int32) (s : zS) : Option (Int32 × zS) :=
  zRd (s 2) v1 16 fun x11 => zRd (s 11) x11 32 fun x12 => m_X8_halves_j14  n n v1 (0 : Int32) x12 s
def m_X8_solves_j127 (rec53 : Int32 → zS → Option (Int32 × zS)) (rec62 : Int32 → Int32 → zS → Option (Int32 × zS)) (n : Nat) (v3 : Int32) (v4 : Int32) (s : zS) : Option (Int32 × zS) :=
  zLt (v4 + (1 : Int32)) fun x1 => rec62 v3 x1 s
def m_X8_solves_j62 (rec53 : Int32 → zS → Option (Int32 × zS)) (n : Nat) : Nat → Int32 → Int32 → zS → Option (Int32 × zS)
  | 0, _, _, _ => none
  | f + 1, v3, v4, s =>
    if (16 : Int32) ≤ v4 then (zLt (v3 + (1 : Int32)) fun x3 => rec53 x3 s) else (zRd (s 1) v4 16 fun x4 => if x4 = (8 : Int32) then (zRd (s 12) v4 32 fun x6 => if x6 = 0 then (zRd (s 2) v4 16 fun x8 => zRd (s 12) x8 32 fun x9 => if x9 = 0 then (m_X8_solves_j127 rec53 (m_X8_solves_j62 rec53 n f) n v3 v4 s) else (zBd (m_X8_tries n v4 (0 : Int32) s) fun x11 s12 => if x11 = 0 then (m_X8_solves_j127 rec53 (m_X8_solves_j62 rec53 n f) n v3 v4 s12) else (zBd (m_X8_halves n v4 s12) fun x14 s15 => zBd (m_X8_passes n (0 : Int32) s15) fun x16 s17 => m_X8_solves_j127 rec53 (m_X8_solves_j62 rec53 n f) n v3 v4 s17))) else (m_X8_solves_j127 rec53 (m_X8_solves_j62 rec53 n f) n v3 v4 s)) else (m_X8_solves_j127 rec53 (m_X8_solves_j62 rec53 n f) n v3 v4 s))
def m_X8_solves_j53 (n : Nat) : Nat → Int32 → zS → Option (Int32 × zS)
  | 0, _, _ => none
  | f + 1, v3, s =>
    if (16 : Int32) ≤ v3 then (zRt 0 s) else (m_X8_solves_j62 (m_X8_solves_j53 n f) n n v3 (0 : Int32) s)
def m_X8_solves_j23 (rec2 : Int32 → Int32 → Int32 → zS → Option (Int32 × zS)) (n : Nat) (v1 : Int32) (v2 : Int32) (v3 : Int32) (t1 : Int32) (t2 : Int32) (s : zS) : Option (Int32 × zS) :=
  zWr s 12 t1 32 (vp_nar .boolean t2) fun s19 => if v3 = v1 then (zWr s19 11 v3 32 v2 fun s23 => zLt (v3 + (1 : Int32)) fun x24 => rec2 v1 v2 x24 s23) else (zWr s19 11 v3 32 (0 : Int32) fun s21 => zLt (v3 + (1 : Int32)) fun x22 => rec2 v1 v2 x22 s21)
def m_X8_solves_j2 (n : Nat) : Nat → Int32 → Int32 → Int32 → zS → Option (Int32 × zS)
  | 0, _, _, _, _ => none
  | f + 1, v1, v2, v3, s =>
    if (16 : Int32) ≤ v3 then (zBd (m_X8_passes n (0 : Int32) s) fun x26 s27 => m_X8_solves_j53  n n (0 : Int32) s27) else (if v3 = v1 then (m_X8_solves_j23 (m_X8_solves_j2 n f) n v1 v2 v3 v3 (1 : Int32) s) else (m_X8_solves_j23 (m_X8_solves_j2 n f) n v1 v2 v3 v3 (0 : Int32) s))
def m_X8_solves (n : Nat) (v1 : Int32) (v2 : Int32) (s : zS) : Option (Int32 × zS) :=
  m_X8_solves_j2  n n v1 v2 (0 : Int32) s
def m_X8_value_j13 (n : Nat) (v1 : Int32) (t1 : Int32) (s : zS) : Option (Int32 × zS) :=
  zLt (zU s 0 23 t1) fun s1 => if (s1 0 23) ≤ 0 then (zBd (m_X8_solves n (-1 : Int32) (0 : Int32) s1) fun x3 s4 => zRd (s4 11) v1 32 fun x5 => zRt x5 s4) else (zRt (0 : Int32) s1)
def m_X8_value (n : Nat) (v1 : Int32) (s : zS) : Option (Int32 × zS) :=
  zBd (m_X8_isLine n v1 s) fun x6 s7 => if x6 = 0 then (m_X8_value_j13  n v1 (1 : Int32) s7) else (m_X8_value_j13  n v1 (0 : Int32) s7)
def m_X8_boundFor_j42 (n : Nat) (v1 : Int32) (v2 : Int32) (t1 : Int32) (s : zS) : Option (Int32 × zS) :=
  zLt (zU s 0 23 t1) fun s1 => if (s1 0 23) ≤ 0 then (zBd (m_X8_solves n v1 v2 s1) fun x3 s4 => zRd (s4 3) v1 16 fun x5 => zRd (s4 11) x5 32 fun x6 => zRt x6 s4) else (zRt (0 : Int32) s1)
def m_X8_boundFor (n : Nat) (v1 : Int32) (v2 : Int32) (s : zS) : Option (Int32 × zS) :=
  zBd (m_X8_isLine n v1 s) fun x7 s8 => if x7 = 0 then (m_X8_boundFor_j42  n v1 v2 (1 : Int32) s8) else (zBd (m_X8_isIn n v2 (0 : Int32) (1000000000 : Int32) s8) fun x10 s11 => if x10 = 0 then (m_X8_boundFor_j42  n v1 v2 (2 : Int32) s11) else (zRd (s11 1) v1 16 fun x13 => if x13 = (8 : Int32) then (m_X8_boundFor_j42  n v1 v2 (0 : Int32) s11) else (m_X8_boundFor_j42  n v1 v2 (3 : Int32) s11)))
def m_X8_dependsOn_j20 (n : Nat) (v1 : Int32) (v2 : Int32) (t1 : Int32) (s : zS) : Option (Int32 × zS) :=
  zLt (zU s 0 23 t1) fun s1 => if (s1 0 23) ≤ 0 then (zBd (m_X8_laysNeeds n (-1 : Int32) s1) fun x3 s4 => zBd (m_X8_depends n v1 v2 s4) fun x5 s6 => zGd (vp_nar .boolean x5 = x5) (zRt x5 s6)) else (zRt (0 : Int32) s1)
def m_X8_dependsOn (n : Nat) (v1 : Int32) (v2 : Int32) (s : zS) : Option (Int32 × zS) :=
  zBd (m_X8_isLine n v1 s) fun x8 s9 => if x8 = 0 then (m_X8_dependsOn_j20  n v1 v2 (1 : Int32) s9) else (zBd (m_X8_isLine n v2 s9) fun x11 s12 => if x11 = 0 then (m_X8_dependsOn_j20  n v1 v2 (1 : Int32) s12) else (m_X8_dependsOn_j20  n v1 v2 (0 : Int32) s12))
def m_X8_influence_j96 (n : Nat) : Nat → Int32 → Int32 → zS → Option (Int32 × zS)
  | 0, _, _, _ => none
  | f + 1, v2, v3, s =>
    if (16 : Int32) ≤ v3 then (zRt v2 s) else (zRd (s 11) v3 32 fun x2 => zRd (s 16) v3 16 fun x3 => if x2 = x3 then (zLt (v2 + (0 : Int32)) fun x5 => zLt (v3 + (1 : Int32)) fun x6 => m_X8_influence_j96 n f x5 x6 s) else (zLt (v2 + (1 : Int32)) fun x7 => zLt (v3 + (1 : Int32)) fun x8 => m_X8_influence_j96 n f x7 x8 s))
def m_X8_influence_j42 (n : Nat) : Nat → Int32 → Int32 → zS → Option (Int32 × zS)
  | 0, _, _, _ => none
  | f + 1, v1, v2, s =>
    if (16 : Int32) ≤ v2 then (zRd (s 4) v1 16 fun x10 => zWr s 4 v1 16 (x10 + (1 : Int32)) fun s11 => zBd (m_X8_solves n (-1 : Int32) (0 : Int32) s11) fun x12 s13 => zRd (s13 4) v1 16 fun x14 => zWr s13 4 v1 16 (x14 - (1 : Int32)) fun s15 => m_X8_influence_j96  n n (0 : Int32) (0 : Int32) s15) else (zRd (s 11) v2 32 fun x16 => zWr s 16 v2 16 x16 fun s17 => zLt (v2 + (1 : Int32)) fun x18 => m_X8_influence_j42 n f v1 x18 s17)
def m_X8_influence_j13 (n : Nat) (v1 : Int32) (t1 : Int32) (s : zS) : Option (Int32 × zS) :=
  zLt (zU s 0 23 t1) fun s19 => if 0 < (s19 0 23) then (zRt (0 : Int32) s19) else (zRd (s19 1) v1 16 fun x21 => if x21 = 0 then (zBd (m_X8_solves n (-1 : Int32) (0 : Int32) s19) fun x23 s24 => m_X8_influence_j42  n n v1 (0 : Int32) s24) else (zRt (0 : Int32) s19))
def m_X8_influence (n : Nat) (v1 : Int32) (s : zS) : Option (Int32 × zS) :=
  zBd (m_X8_isLine n v1 s) fun x25 s26 => if x25 = 0 then (m_X8_influence_j13  n v1 (1 : Int32) s26) else (m_X8_influence_j13  n v1 (0 : Int32) s26)
def m_X8_why_j220 (rec52 : Int32 → Int32 → Int32 → Int32 → zS → Option (Int32 × zS)) (n : Nat) (v2 : Int32) (v3 : Int32) (v4 : Int32) (v5 : Int32) (v6 : Int32) (v10 : Int32) (s : zS) : Option (Int32 × zS) :=
  if v10 = 0 then (zLt (v5 + (1 : Int32)) fun x2 => rec52 v2 v3 v4 x2 s) else (zRd (s 3) v6 16 fun x3 => if ((v4 >>> (x3 &&& 31)) &&& (1 : Int32)) = 0 then (zRd (s 3) v6 16 fun x6 => zWr s 15 v3 16 x6 fun s7 => zRd (s7 3) v6 16 fun x8 => zLt (v4 ||| ((1 : Int32) <<< (x8 &&& 31))) fun x9 => zLt (v3 + (1 : Int32)) fun x10 => zLt (v5 + (1 : Int32)) fun x11 => rec52 v2 x10 x9 x11 s7) else (zLt (v5 + (1 : Int32)) fun x5 => rec52 v2 v3 v4 x5 s))
def m_X8_why_j168 (rec52 : Int32 → Int32 → Int32 → Int32 → zS → Option (Int32 × zS)) (n : Nat) (v2 : Int32) (v3 : Int32) (v4 : Int32) (v5 : Int32) (v6 : Int32) (v9 : Int32) (t0 : Int32) (s : zS) : Option (Int32 × zS) :=
  if v9 = 0 then (m_X8_why_j220 rec52 n v2 v3 v4 v5 v6 t0 s) else (zRd (s 2) v6 16 fun x13 => if ((v4 >>> (x13 &&& 31)) &&& (1 : Int32)) = 0 then (zRd (s 2) v6 16 fun x15 => zWr s 15 v3 16 x15 fun s16 => zRd (s16 2) v6 16 fun x17 => zLt (v4 ||| ((1 : Int32) <<< (x17 &&& 31))) fun x18 => zLt (v3 + (1 : Int32)) fun x19 => m_X8_why_j220 rec52 n v2 x19 x18 v5 v6 t0 s16) else (m_X8_why_j220 rec52 n v2 v3 v4 v5 v6 t0 s))
def m_X8_why_j139 (rec52 : Int32 → Int32 → Int32 → Int32 → zS → Option (Int32 × zS)) (n : Nat) (v2 : Int32) (v3 : Int32) (v4 : Int32) (v5 : Int32) (v6 : Int32) (v7 : Int32) (v8 : Int32) (t0 : Int32) (s : zS) : Option (Int32 × zS) :=
  if v7 = (1 : Int32) then (m_X8_why_j168 rec52 n v2 v3 v4 v5 v6 t0 (1 : Int32) s) else (if v7 = (2 : Int32) then (m_X8_why_j168 rec52 n v2 v3 v4 v5 v6 t0 (1 : Int32) s) else (if v8 = 0 then (m_X8_why_j168 rec52 n v2 v3 v4 v5 v6 t0 (0 : Int32) s) else (if t0 = 0 then (m_X8_why_j168 rec52 n v2 v3 v4 v5 v6 t0 (1 : Int32) s) else (m_X8_why_j168 rec52 n v2 v3 v4 v5 v6 t0 (0 : Int32) s))))
def m_X8_why_j100 (rec52 : Int32 → Int32 → Int32 → Int32 → zS → Option (Int32 × zS)) (n : Nat) (v2 : Int32) (v3 : Int32) (v4 : Int32) (v5 : Int32) (v6 : Int32) (v7 : Int32) (t0 : Int32) (s : zS) : Option (Int32 × zS) :=
  if v7 = 0 then (m_X8_why_j139 rec52 n v2 v3 v4 v5 v6 v7 t0 (0 : Int32) s) else (if t0 = 0 then (m_X8_why_j139 rec52 n v2 v3 v4 v5 v6 v7 t0 (1 : Int32) s) else (zRd (s 2) v6 16 fun x26 => zRd (s 11) x26 32 fun x27 => zRd (s 11) v6 32 fun x28 => if x27 = x28 then (m_X8_why_j139 rec52 n v2 v3 v4 v5 v6 v7 t0 (1 : Int32) s) else (m_X8_why_j139 rec52 n v2 v3 v4 v5 v6 v7 t0 (0 : Int32) s)))
def m_X8_why_j52 (n : Nat) : Nat → Int32 → Int32 → Int32 → Int32 → zS → Option (Int32 × zS)
  | 0, _, _, _, _, _ => none
  | f + 1, v2, v3, v4, v5, s =>
    if v3 ≤ v5 then (if v3 ≤ v2 then (zRt (-1 : Int32) s) else (zRd (s 15) v2 16 fun x32 => zRt x32 s)) else (zRd (s 15) v5 16 fun x33 => zRd (s 1) x33 16 fun x34 => if x34 = (4 : Int32) then (m_X8_why_j100 (m_X8_why_j52 n f) n v2 v3 v4 v5 x33 x34 (1 : Int32) s) else (if x34 = (5 : Int32) then (m_X8_why_j100 (m_X8_why_j52 n f) n v2 v3 v4 v5 x33 x34 (1 : Int32) s) else (if x34 = (8 : Int32) then (m_X8_why_j100 (m_X8_why_j52 n f) n v2 v3 v4 v5 x33 x34 (1 : Int32) s) else (m_X8_why_j100 (m_X8_why_j52 n f) n v2 v3 v4 v5 x33 x34 (0 : Int32) s))))
def m_X8_why_j17 (n : Nat) (v1 : Int32) (v2 : Int32) (t1 : Int32) (s : zS) : Option (Int32 × zS) :=
  zLt (zU s 0 23 t1) fun s38 => if (s38 0 23) ≤ 0 then (zBd (m_X8_solves n (-1 : Int32) (0 : Int32) s38) fun x40 s41 => zWr s41 15 (0 : Int32) 16 v1 fun s42 => zLt ((1 : Int32) <<< (v1 &&& 31)) fun x43 => m_X8_why_j52  n n v2 (1 : Int32) x43 (0 : Int32) s42) else (zRt (0 : Int32) s38)
def m_X8_why (n : Nat) (v1 : Int32) (v2 : Int32) (s : zS) : Option (Int32 × zS) :=
  zBd (m_X8_isLine n v1 s) fun x44 s45 => if x44 = 0 then (m_X8_why_j17  n v1 v2 (1 : Int32) s45) else (if v2 < 0 then (m_X8_why_j17  n v1 v2 (1 : Int32) s45) else (m_X8_why_j17  n v1 v2 (0 : Int32) s45))
def m_X8_bracket_j91 (n : Nat) (v1 : Int32) (v2 : Int32) (v3 : Int32) (t1 : Int32) (s : zS) : Option (Int32 × zS) :=
  zLt (zU s 0 23 t1) fun s1 => if (s1 0 23) ≤ 0 then (zWr s1 5 v3 5 v1 fun s3 => zWr s3 6 v3 5 v2 fun s4 => if v3 = (s4 0 4) then (zLt (zU s4 0 4 ((s4 0 4) + (1 : Int32))) fun s7 => zRt (s7 0 4) s7) else (zLt (zU s4 0 4 ((s4 0 4) + (0 : Int32))) fun s6 => zRt (s6 0 4) s6)) else (zRt (0 : Int32) s1)
def m_X8_bracket_j47 (n : Nat) : Nat → Int32 → Int32 → Int32 → Int32 → zS → Option (Int32 × zS)
  | 0, _, _, _, _, _ => none
  | f + 1, v1, v2, v3, v4, s =>
    if (s 0 4) ≤ v4 then (if v3 = (5 : Int32) then (m_X8_bracket_j91  n v1 v2 v3 (2 : Int32) s) else (m_X8_bracket_j91  n v1 v2 v3 (0 : Int32) s)) else (zRd (s 5) v4 5 fun x10 => if x10 = v1 then (zLt (v4 + (1 : Int32)) fun x13 => m_X8_bracket_j47 n f v1 v2 v4 x13 s) else (zLt (v4 + (1 : Int32)) fun x12 => m_X8_bracket_j47 n f v1 v2 v3 x12 s))
def m_X8_bracket_j27 (n : Nat) (v1 : Int32) (v2 : Int32) (t1 : Int32) (s : zS) : Option (Int32 × zS) :=
  zLt (zU s 0 23 t1) fun s14 => if (s14 0 23) ≤ 0 then (zLt (s14 0 4) fun x16 => m_X8_bracket_j47  n n v1 v2 x16 (0 : Int32) s14) else (zRt (0 : Int32) s14)
def m_X8_bracket (n : Nat) (v1 : Int32) (v2 : Int32) (s : zS) : Option (Int32 × zS) :=
  zBd (m_X8_isIn n v1 (0 : Int32) (1000000 : Int32) s) fun x17 s18 => if x17 = 0 then (m_X8_bracket_j27  n v1 v2 (1 : Int32) s18) else (zBd (m_X8_isIn n v2 (0 : Int32) (1000 : Int32) s18) fun x20 s21 => if x20 = 0 then (m_X8_bracket_j27  n v1 v2 (1 : Int32) s21) else (m_X8_bracket_j27  n v1 v2 (0 : Int32) s21))
def m_X8_dropBrackets (n : Nat)  (s : zS) : Option (Int32 × zS) :=
  zLt (zU s 0 23 (0 : Int32)) fun s1 => zLt (s1 0 4) fun x2 => zLt (zU s1 0 4 (0 : Int32)) fun s3 => zRt x2 s3
def m_X8_taxOn_j16 (n : Nat) (v1 : Int32) (t1 : Int32) (s : zS) : Option (Int32 × zS) :=
  zLt (zU s 0 23 t1) fun s1 => if (s1 0 23) ≤ 0 then (zBd (m_X8_taxed n v1 s1) fun x3 s4 => zRt x3 s4) else (zRt (0 : Int32) s1)
def m_X8_taxOn (n : Nat) (v1 : Int32) (s : zS) : Option (Int32 × zS) :=
  zBd (m_X8_isIn n v1 (0 : Int32) (1000000000 : Int32) s) fun x5 s6 => if x5 = 0 then (m_X8_taxOn_j16  n v1 (1 : Int32) s6) else (m_X8_taxOn_j16  n v1 (0 : Int32) s6)
def m_X8_carry_j129 (n : Nat) (v1 : Int32) (v2 : Int32) (v3 : Int32) (s : zS) : Option (Int32 × zS) :=
  zWr s 7 v3 8 v1 fun s1 => zWr s1 8 v3 8 v2 fun s2 => zLt (zU s2 0 8 ((s2 0 8) + (1 : Int32))) fun s3 => zBd (m_X8_all n s3) fun x4 s5 => zRt x4 s5
def m_X8_carry_j79 (n : Nat) : Nat → Int32 → Int32 → Int32 → zS → Option (Int32 × zS)
  | 0, _, _, _, _ => none
  | f + 1, v1, v2, v3, s =>
    if v3 ≤ 0 then (m_X8_carry_j129  n v1 v2 v3 s) else (zRd (s 8) (v3 - (1 : Int32)) 8 fun x7 => if x7 ≤ v2 then (m_X8_carry_j129  n v1 v2 v3 s) else (zRd (s 7) (v3 - (1 : Int32)) 8 fun x9 => zWr s 7 v3 8 x9 fun s10 => zRd (s10 8) (v3 - (1 : Int32)) 8 fun x11 => zWr s10 8 v3 8 x11 fun s12 => zLt (v3 + (-1 : Int32)) fun x13 => m_X8_carry_j79 n f v1 v2 x13 s12))
def m_X8_carry_j62 (n : Nat) (v1 : Int32) (v2 : Int32) (t1 : Int32) (s : zS) : Option (Int32 × zS) :=
  zLt (zU s 0 23 t1) fun s14 => if (s14 0 23) ≤ 0 then (zLt (s14 0 8) fun x16 => m_X8_carry_j79  n n v1 v2 x16 s14) else (zRt (0 : Int32) s14)
def m_X8_carry_j35 (n : Nat) (v1 : Int32) (v2 : Int32) (t1 : Int32) (s : zS) : Option (Int32 × zS) :=
  zLt (zU s 0 23 t1) fun s17 => if (s17 0 23) ≤ 0 then (if (s17 0 8) = (8 : Int32) then (m_X8_carry_j62  n v1 v2 (2 : Int32) s17) else (m_X8_carry_j62  n v1 v2 (0 : Int32) s17)) else (zRt (0 : Int32) s17)
def m_X8_carry (n : Nat) (v1 : Int32) (v2 : Int32) (s : zS) : Option (Int32 × zS) :=
  zBd (m_X8_isIn n v1 (1 : Int32) (1000000 : Int32) s) fun x20 s21 => if x20 = 0 then (m_X8_carry_j35  n v1 v2 (1 : Int32) s21) else (if v2 < (s21 0 7) then (m_X8_carry_j35  n v1 v2 (1 : Int32) s21) else (if (20 : Int32) < (v2 - (s21 0 7)) then (m_X8_carry_j35  n v1 v2 (1 : Int32) s21) else (m_X8_carry_j35  n v1 v2 (0 : Int32) s21)))
def m_X8_carried (n : Nat)  (s : zS) : Option (Int32 × zS) :=
  zLt (zU s 0 23 (0 : Int32)) fun s1 => zBd (m_X8_all n s1) fun x2 s3 => zRt x2 s3
def m_X8_carriedAt_j20 (n : Nat) (v1 : Int32) (t1 : Int32) (s : zS) : Option (Int32 × zS) :=
  zLt (zU s 0 23 t1) fun s1 => if (s1 0 23) ≤ 0 then (zRd (s1 7) v1 8 fun x3 => zRt x3 s1) else (zRt (0 : Int32) s1)
def m_X8_carriedAt (n : Nat) (v1 : Int32) (s : zS) : Option (Int32 × zS) :=
  zBd (m_X8_isIn n v1 (0 : Int32) ((s 0 8) - (1 : Int32)) s) fun x4 s5 => if x4 = 0 then (m_X8_carriedAt_j20  n v1 (1 : Int32) s5) else (m_X8_carriedAt_j20  n v1 (0 : Int32) s5)
def m_X8_year (n : Nat)  (s : zS) : Option (Int32 × zS) :=
  zLt (zU s 0 23 (0 : Int32)) fun s1 => zRt (s1 0 7) s1
def m_X8_spends_j32 (rec4 : Int32 → Int32 → Int32 → zS → Option (Int32 × zS)) (n : Nat) (v1 : Int32) (v2 : Int32) (v3 : Int32) (t0 : Int32) (s : zS) : Option (Int32 × zS) :=
  zRd (s 7) v3 8 fun x1 => zWr s 7 v3 8 (x1 - t0) fun s2 => zLt (v2 - t0) fun x3 => zLt (v3 + (1 : Int32)) fun x4 => rec4 v1 x3 x4 s2
def m_X8_spends_j4 (n : Nat) : Nat → Int32 → Int32 → Int32 → zS → Option (Int32 × zS)
  | 0, _, _, _, _ => none
  | f + 1, v1, v2, v3, s =>
    if (s 0 8) ≤ v3 then (zRt (v1 - v2) s) else (zRd (s 7) v3 8 fun x6 => if v2 ≤ x6 then (m_X8_spends_j32 (m_X8_spends_j4 n f) n v1 v2 v3 v2 s) else (zRd (s 7) v3 8 fun x8 => m_X8_spends_j32 (m_X8_spends_j4 n f) n v1 v2 v3 x8 s))
def m_X8_spends (n : Nat) (v1 : Int32) (s : zS) : Option (Int32 × zS) :=
  m_X8_spends_j4  n n v1 v1 (0 : Int32) s
def m_X8_closeYear_j59 (n : Nat) : Nat → Int32 → Int32 → Int32 → zS → Option (Int32 × zS)
  | 0, _, _, _, _ => none
  | f + 1, v1, v2, v3, s =>
    if (s 0 8) ≤ v3 then (zLt (zU s 0 8 v2) fun s2 => zLt (zU s2 0 7 ((s2 0 7) + (1 : Int32))) fun s3 => zRt v1 s3) else (zRd (s 7) v3 8 fun x4 => if x4 ≤ 0 then (zLt (v3 + (1 : Int32)) fun x6 => m_X8_closeYear_j59 n f v1 v2 x6 s) else (zRd (s 8) v3 8 fun x7 => if x7 ≤ (s 0 7) then (zLt (v3 + (1 : Int32)) fun x9 => m_X8_closeYear_j59 n f v1 v2 x9 s) else (zRd (s 7) v3 8 fun x10 => zWr s 7 v2 8 x10 fun s11 => zRd (s11 8) v3 8 fun x12 => zWr s11 8 v2 8 x12 fun s13 => zLt (v2 + (1 : Int32)) fun x14 => zLt (v3 + (1 : Int32)) fun x15 => m_X8_closeYear_j59 n f v1 x14 x15 s13)))
def m_X8_closeYear_j15 (n : Nat) : Nat → Int32 → Int32 → zS → Option (Int32 × zS)
  | 0, _, _, _ => none
  | f + 1, v1, v2, s =>
    if (16 : Int32) ≤ v2 then (m_X8_closeYear_j59  n n v1 (0 : Int32) (0 : Int32) s) else (zRd (s 1) v2 16 fun x17 => if x17 = (7 : Int32) then (zRd (s 11) v2 32 fun x21 => zBd (m_X8_spends n x21 s) fun x22 s23 => zLt (v1 + x22) fun x24 => zLt (v2 + (1 : Int32)) fun x25 => m_X8_closeYear_j15 n f x24 x25 s23) else (zLt (v1 + (0 : Int32)) fun x19 => zLt (v2 + (1 : Int32)) fun x20 => m_X8_closeYear_j15 n f x19 x20 s))
def m_X8_closeYear (n : Nat)  (s : zS) : Option (Int32 × zS) :=
  zLt (zU s 0 23 (0 : Int32)) fun s26 => zBd (m_X8_solves n (-1 : Int32) (0 : Int32) s26) fun x27 s28 => m_X8_closeYear_j15  n n (0 : Int32) (0 : Int32) s28
def m_X8_addCredit_j39 (n : Nat) (v1 : Int32) (v2 : Int32) (t1 : Int32) (s : zS) : Option (Int32 × zS) :=
  zLt (zU s 0 23 t1) fun s1 => if (s1 0 23) ≤ 0 then (zWr s1 9 (s1 0 11) 5 v1 fun s3 => zWr s3 10 (s3 0 11) 5 v2 fun s4 => zLt (zU s4 0 11 ((s4 0 11) + (1 : Int32))) fun s5 => zRt ((s5 0 11) - (1 : Int32)) s5) else (zRt (0 : Int32) s1)
def m_X8_addCredit (n : Nat) (v1 : Int32) (v2 : Int32) (s : zS) : Option (Int32 × zS) :=
  zBd (m_X8_isIn n v1 (1 : Int32) (1000000 : Int32) s) fun x6 s7 => if x6 = 0 then (m_X8_addCredit_j39  n v1 v2 (1 : Int32) s7) else (zBd (m_X8_isIn n v2 (0 : Int32) (1000 : Int32) s7) fun x9 s10 => if x9 = 0 then (m_X8_addCredit_j39  n v1 v2 (1 : Int32) s10) else (if (s10 0 11) = (5 : Int32) then (m_X8_addCredit_j39  n v1 v2 (2 : Int32) s10) else (m_X8_addCredit_j39  n v1 v2 (0 : Int32) s10)))
def m_X8_dropCredit_j13 (n : Nat) (t1 : Int32) (s : zS) : Option (Int32 × zS) :=
  zLt (zU s 0 23 t1) fun s1 => if (s1 0 23) ≤ 0 then (zLt (zU s1 0 11 ((s1 0 11) - (1 : Int32))) fun s3 => zRt (s3 0 11) s3) else (zRt (0 : Int32) s1)
def m_X8_dropCredit (n : Nat)  (s : zS) : Option (Int32 × zS) :=
  if (s 0 11) = 0 then (m_X8_dropCredit_j13  n (1 : Int32) s) else (m_X8_dropCredit_j13  n (0 : Int32) s)
def m_X8_comes_j42 (rec7 : Int32 → Int32 → Int32 → zS → Option (Int32 × zS)) (n : Nat) (v2 : Int32) (v3 : Int32) (v4 : Int32) (v5 : Int32) (t0 : Int32) (s : zS) : Option (Int32 × zS) :=
  zLt (v2 - t0) fun x1 => zRd (s 17) v4 5 fun x2 => zRd (s 10) x2 5 fun x3 => zLt (v3 + (t0 + (Int64.toInt32 (((Int32.toInt64 (v5 - t0)) * (Int32.toInt64 x3)) / (1000 : Int64))))) fun x4 => zLt (v4 + (1 : Int32)) fun x5 => rec7 x1 x4 x5 s
def m_X8_comes_j7 (n : Nat) : Nat → Int32 → Int32 → Int32 → zS → Option (Int32 × zS)
  | 0, _, _, _, _ => none
  | f + 1, v2, v3, v4, s =>
    if (s 0 11) ≤ v4 then (zRt v3 s) else (zRd (s 17) v4 5 fun x7 => zRd (s 9) x7 5 fun x8 => if v2 ≤ x8 then (m_X8_comes_j42 (m_X8_comes_j7 n f) n v2 v3 v4 x8 v2 s) else (m_X8_comes_j42 (m_X8_comes_j7 n f) n v2 v3 v4 x8 x8 s))
def m_X8_comes (n : Nat) (v1 : Int32) (s : zS) : Option (Int32 × zS) :=
  m_X8_comes_j7  n n v1 (0 : Int32) (0 : Int32) s
def m_X8_laysOrder_j12 (n : Nat) : Nat → Int32 → Int32 → Int32 → zS → Option (Int32 × zS)
  | 0, _, _, _, _ => none
  | f + 1, v2, v3, v4, s =>
    if v4 < 0 then (if v3 = (((1 : Int32) <<< ((s 0 11) &&& 31)) - (1 : Int32)) then (zRt (1 : Int32) s) else (zRt (0 : Int32) s)) else (zGd (¬ (s 0 11) = 0) (zWr s 17 v4 5 (v2 - v2 / (s 0 11) * (s 0 11)) fun s4 => zGd (¬ (s4 0 11) = 0) (zLt (v2 / (s4 0 11)) fun x6 => zRd (s4 17) v4 5 fun x7 => zLt (v3 ||| ((1 : Int32) <<< (x7 &&& 31))) fun x8 => zLt (v4 + (-1 : Int32)) fun x9 => m_X8_laysOrder_j12 n f x6 x8 x9 s4)))
def m_X8_laysOrder (n : Nat) (v1 : Int32) (s : zS) : Option (Int32 × zS) :=
  zLt ((s 0 11) - (1 : Int32)) fun x10 => m_X8_laysOrder_j12  n n v1 (0 : Int32) x10 s
def m_X8_orders_j69 (rec32 : Int32 → Int32 → Int32 → zS → Option (Int32 × zS)) (n : Nat) : Nat → Int32 → Int32 → Int32 → Int32 → zS → Option (Int32 × zS)
  | 0, _, _, _, _, _ => none
  | f + 1, v1, v2, v3, v4, s =>
    if (s 0 11) ≤ v4 then (zLt (v3 + (1 : Int32)) fun x2 => rec32 v1 v2 x2 s) else (zRd (s 17) v4 5 fun x3 => zWr s 18 v4 5 x3 fun s4 => zLt (v4 + (1 : Int32)) fun x5 => m_X8_orders_j69 rec32 n f v1 v2 v3 x5 s4)
def m_X8_orders_j32 (n : Nat) : Nat → Int32 → Int32 → Int32 → zS → Option (Int32 × zS)
  | 0, _, _, _, _ => none
  | f + 1, v1, v2, v3, s =>
    if v2 ≤ v3 then (zRt 0 s) else (zBd (m_X8_laysOrder n v3 s) fun x7 s8 => if x7 = 0 then (zLt (v3 + (1 : Int32)) fun x10 => m_X8_orders_j32 n f v1 v2 x10 s8) else (zBd (m_X8_comes n v1 s8) fun x11 s12 => if x11 ≤ (s12 0 22) then (zLt (v3 + (1 : Int32)) fun x14 => m_X8_orders_j32 n f v1 v2 x14 s12) else (zBd (m_X8_comes n v1 s12) fun x15 s16 => zLt (zU s16 0 22 x15) fun s17 => m_X8_orders_j69 (m_X8_orders_j32 n f) n n v1 v2 v3 (0 : Int32) s17)))
def m_X8_orders_j4 (n : Nat) : Nat → Int32 → Int32 → Int32 → zS → Option (Int32 × zS)
  | 0, _, _, _, _ => none
  | f + 1, v1, v2, v3, s =>
    if (s 0 11) ≤ v3 then (zLt (zU s 0 22 (-1 : Int32)) fun s19 => m_X8_orders_j32  n n v1 v2 (0 : Int32) s19) else (zLt (v2 * (s 0 11)) fun x20 => zLt (v3 + (1 : Int32)) fun x21 => m_X8_orders_j4 n f v1 x20 x21 s)
def m_X8_orders (n : Nat) (v1 : Int32) (s : zS) : Option (Int32 × zS) :=
  m_X8_orders_j4  n n v1 (1 : Int32) (0 : Int32) s
def m_X8_creditAt_j27 (n : Nat) (v1 : Int32) (v2 : Int32) (t1 : Int32) (s : zS) : Option (Int32 × zS) :=
  zLt (zU s 0 23 t1) fun s1 => if (s1 0 23) ≤ 0 then (zBd (m_X8_solves n (-1 : Int32) (0 : Int32) s1) fun x3 s4 => zRd (s4 11) v1 32 fun x5 => zBd (m_X8_orders n x5 s4) fun x6 s7 => zRd (s7 18) v2 5 fun x8 => zRt x8 s7) else (zRt (0 : Int32) s1)
def m_X8_creditAt (n : Nat) (v1 : Int32) (v2 : Int32) (s : zS) : Option (Int32 × zS) :=
  zBd (m_X8_isLine n v1 s) fun x9 s10 => if x9 = 0 then (m_X8_creditAt_j27  n v1 v2 (1 : Int32) s10) else (zBd (m_X8_isIn n v2 (0 : Int32) ((s10 0 11) - (1 : Int32)) s10) fun x12 s13 => if x12 = 0 then (m_X8_creditAt_j27  n v1 v2 (1 : Int32) s13) else (m_X8_creditAt_j27  n v1 v2 (0 : Int32) s13))
def m_X8_afterCredits_j40 (n : Nat) : Nat → Int32 → Int32 → zS → Option (Int32 × zS)
  | 0, _, _, _ => none
  | f + 1, v2, v3, s =>
    if (s 0 11) ≤ v3 then (zRt v2 s) else (zRd (s 9) v3 5 fun x2 => if v2 ≤ x2 then (zLt (v2 - v2) fun x4 => zLt (v3 + (1 : Int32)) fun x5 => m_X8_afterCredits_j40 n f x4 x5 s) else (zRd (s 9) v3 5 fun x6 => zLt (v2 - x6) fun x7 => zLt (v3 + (1 : Int32)) fun x8 => m_X8_afterCredits_j40 n f x7 x8 s))
def m_X8_afterCredits_j13 (n : Nat) (v1 : Int32) (t1 : Int32) (s : zS) : Option (Int32 × zS) :=
  zLt (zU s 0 23 t1) fun s9 => if (s9 0 23) ≤ 0 then (zBd (m_X8_solves n (-1 : Int32) (0 : Int32) s9) fun x11 s12 => zRd (s12 11) v1 32 fun x13 => m_X8_afterCredits_j40  n n x13 (0 : Int32) s12) else (zRt (0 : Int32) s9)
def m_X8_afterCredits (n : Nat) (v1 : Int32) (s : zS) : Option (Int32 × zS) :=
  zBd (m_X8_isLine n v1 s) fun x14 s15 => if x14 = 0 then (m_X8_afterCredits_j13  n v1 (1 : Int32) s15) else (m_X8_afterCredits_j13  n v1 (0 : Int32) s15)
def m_X8_bestSum_j13 (n : Nat) (v1 : Int32) (t1 : Int32) (s : zS) : Option (Int32 × zS) :=
  zLt (zU s 0 23 t1) fun s1 => if (s1 0 23) ≤ 0 then (zBd (m_X8_solves n (-1 : Int32) (0 : Int32) s1) fun x3 s4 => zRd (s4 11) v1 32 fun x5 => zBd (m_X8_orders n x5 s4) fun x6 s7 => zRt (s7 0 22) s7) else (zRt (0 : Int32) s1)
def m_X8_bestSum (n : Nat) (v1 : Int32) (s : zS) : Option (Int32 × zS) :=
  zBd (m_X8_isLine n v1 s) fun x8 s9 => if x8 = 0 then (m_X8_bestSum_j13  n v1 (1 : Int32) s9) else (m_X8_bestSum_j13  n v1 (0 : Int32) s9)

def m_L_define (n : Nat) (v1 : Int32) (v2 : Int32) (v3 : Int32) (v4 : Int32) (s : zS) : Option (Int32 × zS) :=
  zHx (m_X7_define n v1 v2 v3 v4 (zSo s 0)) (fun k s2 => if k = 1 then zRt (1 : Int32) (zMix 0 27 s s2) else if k = 2 then zRt (2 : Int32) (zMix 0 27 s s2) else if k = 3 then zRt (3 : Int32) (zMix 0 27 s s2) else none) fun x1 s2 => zLt (zMix 0 27 s s2) fun s3 => zRt (0 : Int32) s3
def m_L_answer (n : Nat) (v1 : Int32) (v2 : Int32) (s : zS) : Option (Int32 × zS) :=
  zHx (m_X7_answer n v1 v2 (zSo s 0)) (fun k s2 => if k = 1 then zRt (1 : Int32) (zMix 0 27 s s2) else if k = 2 then zRt (2 : Int32) (zMix 0 27 s s2) else none) fun x1 s2 => zLt (zMix 0 27 s s2) fun s3 => zWr s3 46 (0 : Int32) 1 x1 fun s4 => zRt (0 : Int32) s4
def m_L_kindOf (n : Nat) (v1 : Int32) (s : zS) : Option (Int32 × zS) :=
  zHx (m_X7_kindOf n v1 (zSo s 0)) (fun k s2 => if k = 1 then zRt (1 : Int32) (zMix 0 27 s s2) else none) fun x1 s2 => zLt (zMix 0 27 s s2) fun s3 => zWr s3 46 (0 : Int32) 1 x1 fun s4 => zRt (0 : Int32) s4
def m_L_value (n : Nat) (v1 : Int32) (s : zS) : Option (Int32 × zS) :=
  zHx (m_X7_value n v1 (zSo s 0)) (fun k s2 => if k = 1 then zRt (1 : Int32) (zMix 0 27 s s2) else none) fun x1 s2 => zLt (zMix 0 27 s s2) fun s3 => zWr s3 46 (0 : Int32) 1 x1 fun s4 => zRt (0 : Int32) s4
def m_L_boundFor (n : Nat) (v1 : Int32) (v2 : Int32) (s : zS) : Option (Int32 × zS) :=
  zHx (m_X7_boundFor n v1 v2 (zSo s 0)) (fun k s2 => if k = 1 then zRt (1 : Int32) (zMix 0 27 s s2) else if k = 2 then zRt (2 : Int32) (zMix 0 27 s s2) else if k = 3 then zRt (3 : Int32) (zMix 0 27 s s2) else none) fun x1 s2 => zLt (zMix 0 27 s s2) fun s3 => zWr s3 46 (0 : Int32) 1 x1 fun s4 => zRt (0 : Int32) s4
def m_L_dependsOn (n : Nat) (v1 : Int32) (v2 : Int32) (s : zS) : Option (Int32 × zS) :=
  zHx (m_X7_dependsOn n v1 v2 (zSo s 0)) (fun k s2 => if k = 1 then zRt (1 : Int32) (zMix 0 27 s s2) else none) fun x1 s2 => zLt (zMix 0 27 s s2) fun s3 => if x1 = 0 then (zWr s3 46 (0 : Int32) 1 (0 : Int32) fun s5 => zRt (0 : Int32) s5) else (zWr s3 46 (0 : Int32) 1 (1 : Int32) fun s6 => zRt (0 : Int32) s6)
def m_L_influence (n : Nat) (v1 : Int32) (s : zS) : Option (Int32 × zS) :=
  zHx (m_X7_influence n v1 (zSo s 0)) (fun k s2 => if k = 1 then zRt (1 : Int32) (zMix 0 27 s s2) else none) fun x1 s2 => zLt (zMix 0 27 s s2) fun s3 => zWr s3 46 (0 : Int32) 1 x1 fun s4 => zRt (0 : Int32) s4
def m_L_why (n : Nat) (v1 : Int32) (v2 : Int32) (s : zS) : Option (Int32 × zS) :=
  zHx (m_X7_why n v1 v2 (zSo s 0)) (fun k s2 => if k = 1 then zRt (1 : Int32) (zMix 0 27 s s2) else none) fun x1 s2 => zLt (zMix 0 27 s s2) fun s3 => zWr s3 46 (0 : Int32) 1 x1 fun s4 => zRt (0 : Int32) s4
def m_L_bracket (n : Nat) (v1 : Int32) (v2 : Int32) (s : zS) : Option (Int32 × zS) :=
  zHx (m_X7_bracket n v1 v2 (zSo s 0)) (fun k s2 => if k = 2 then zRt (1 : Int32) (zMix 0 27 s s2) else if k = 3 then zRt (2 : Int32) (zMix 0 27 s s2) else none) fun x1 s2 => zLt (zMix 0 27 s s2) fun s3 => zWr s3 46 (0 : Int32) 1 x1 fun s4 => zRt (0 : Int32) s4
def m_L_taxOn (n : Nat) (v1 : Int32) (s : zS) : Option (Int32 × zS) :=
  zHx (m_X7_taxOn n v1 (zSo s 0)) (fun k s2 => if k = 2 then zRt (1 : Int32) (zMix 0 27 s s2) else none) fun x1 s2 => zLt (zMix 0 27 s s2) fun s3 => zWr s3 46 (0 : Int32) 1 x1 fun s4 => zRt (0 : Int32) s4
def m_L_carry (n : Nat) (v1 : Int32) (v2 : Int32) (s : zS) : Option (Int32 × zS) :=
  zHx (m_X7_carry n v1 v2 (zSo s 0)) (fun k s2 => if k = 2 then zRt (1 : Int32) (zMix 0 27 s s2) else if k = 3 then zRt (2 : Int32) (zMix 0 27 s s2) else none) fun x1 s2 => zLt (zMix 0 27 s s2) fun s3 => zWr s3 46 (0 : Int32) 1 x1 fun s4 => zRt (0 : Int32) s4
def m_L_carriedAt (n : Nat) (v1 : Int32) (s : zS) : Option (Int32 × zS) :=
  zHx (m_X7_carriedAt n v1 (zSo s 0)) (fun k s2 => if k = 1 then zRt (1 : Int32) (zMix 0 27 s s2) else none) fun x1 s2 => zLt (zMix 0 27 s s2) fun s3 => zWr s3 46 (0 : Int32) 1 x1 fun s4 => zRt (0 : Int32) s4
def m_L_addCredit (n : Nat) (v1 : Int32) (v2 : Int32) (s : zS) : Option (Int32 × zS) :=
  zHx (m_X7_addCredit n v1 v2 (zSo s 0)) (fun k s2 => if k = 2 then zRt (1 : Int32) (zMix 0 27 s s2) else if k = 3 then zRt (2 : Int32) (zMix 0 27 s s2) else none) fun x1 s2 => zLt (zMix 0 27 s s2) fun s3 => zWr s3 46 (0 : Int32) 1 x1 fun s4 => zRt (0 : Int32) s4
def m_L_dropCredit (n : Nat)  (s : zS) : Option (Int32 × zS) :=
  zHx (m_X7_dropCredit n (zSo s 0)) (fun k s2 => if k = 3 then zRt (1 : Int32) (zMix 0 27 s s2) else none) fun x1 s2 => zLt (zMix 0 27 s s2) fun s3 => zWr s3 46 (0 : Int32) 1 x1 fun s4 => zRt (0 : Int32) s4
def m_L_creditAt (n : Nat) (v1 : Int32) (v2 : Int32) (s : zS) : Option (Int32 × zS) :=
  zHx (m_X7_creditAt n v1 v2 (zSo s 0)) (fun k s2 => if k = 1 then zRt (1 : Int32) (zMix 0 27 s s2) else none) fun x1 s2 => zLt (zMix 0 27 s s2) fun s3 => zWr s3 46 (0 : Int32) 1 x1 fun s4 => zRt (0 : Int32) s4
def m_L_afterCredits (n : Nat) (v1 : Int32) (s : zS) : Option (Int32 × zS) :=
  zHx (m_X7_afterCredits n v1 (zSo s 0)) (fun k s2 => if k = 1 then zRt (1 : Int32) (zMix 0 27 s s2) else none) fun x1 s2 => zLt (zMix 0 27 s s2) fun s3 => zWr s3 46 (0 : Int32) 1 x1 fun s4 => zRt (0 : Int32) s4
def m_L_bestSum (n : Nat) (v1 : Int32) (s : zS) : Option (Int32 × zS) :=
  zHx (m_X7_bestSum n v1 (zSo s 0)) (fun k s2 => if k = 1 then zRt (1 : Int32) (zMix 0 27 s s2) else none) fun x1 s2 => zLt (zMix 0 27 s s2) fun s3 => zWr s3 46 (0 : Int32) 1 x1 fun s4 => zRt (0 : Int32) s4
def m_L_law_c0 (rec : Int32 → zS → Option (Int32 × zS)) (n N : Nat) (xs : Nat → Int32) (v4 : Int32) (s : zS) : Option (Int32 × zS) :=
  zRd xs (v4 + (1 : Int32)) N fun x5 => zRd xs (v4 + (2 : Int32)) N fun x6 => zRd xs (v4 + (3 : Int32)) N fun x7 => zRd xs (v4 + (4 : Int32)) N fun x8 => zBd (m_L_define n x5 x6 x7 x8 s) fun x9 s10 => zRd xs (v4 + (1 : Int32)) N fun x11 => zRd xs (v4 + (2 : Int32)) N fun x12 => zRd xs (v4 + (3 : Int32)) N fun x13 => zRd xs (v4 + (4 : Int32)) N fun x14 => zBd (m_X8_define n x11 x12 x13 x14 (zSo s10 27)) fun x15 s16 => zLt (zMix 27 19 s10 s16) fun s17 => zBd (m_X8_thrown n (zSo s17 27)) fun x18 s19 => zLt (zMix 27 19 s17 s19) fun s20 => if x18 = x9 then (zLt (v4 + (5 : Int32)) fun x22 => rec x22 s20) else (zRt (0 : Int32) s20)
def m_L_law_c1 (rec : Int32 → zS → Option (Int32 × zS)) (n N : Nat) (xs : Nat → Int32) (v4 : Int32) (s : zS) : Option (Int32 × zS) :=
  zRd xs (v4 + (1 : Int32)) N fun x24 => zRd xs (v4 + (2 : Int32)) N fun x25 => zBd (m_L_answer n x24 x25 s) fun x26 s27 => zRd xs (v4 + (1 : Int32)) N fun x28 => zRd xs (v4 + (2 : Int32)) N fun x29 => zBd (m_X8_answer n x28 x29 (zSo s27 27)) fun x30 s31 => zLt (zMix 27 19 s27 s31) fun s32 => zBd (m_X8_thrown n (zSo s32 27)) fun x33 s34 => zLt (zMix 27 19 s32 s34) fun s35 => if x33 = x26 then (if x26 = 0 then (zRd (s35 46) (0 : Int32) 1 fun x39 => if (lg_cmp (Int32.toInt64 x39) (Int32.toInt64 x30)) = 0 then (zLt (v4 + (5 : Int32)) fun x41 => rec x41 s35) else (zRt (0 : Int32) s35)) else (zLt (v4 + (5 : Int32)) fun x38 => rec x38 s35)) else (zRt (0 : Int32) s35)
def m_L_law_c2 (rec : Int32 → zS → Option (Int32 × zS)) (n N : Nat) (xs : Nat → Int32) (v4 : Int32) (s : zS) : Option (Int32 × zS) :=
  zRd xs (v4 + (1 : Int32)) N fun x43 => zBd (m_L_kindOf n x43 s) fun x44 s45 => zRd xs (v4 + (1 : Int32)) N fun x46 => zBd (m_X8_kindOf n x46 (zSo s45 27)) fun x47 s48 => zLt (zMix 27 19 s45 s48) fun s49 => zBd (m_X8_thrown n (zSo s49 27)) fun x50 s51 => zLt (zMix 27 19 s49 s51) fun s52 => if x50 = x44 then (if x44 = 0 then (zRd (s52 46) (0 : Int32) 1 fun x56 => if (lg_cmp (Int32.toInt64 x56) (Int32.toInt64 x47)) = 0 then (zLt (v4 + (5 : Int32)) fun x58 => rec x58 s52) else (zRt (0 : Int32) s52)) else (zLt (v4 + (5 : Int32)) fun x55 => rec x55 s52)) else (zRt (0 : Int32) s52)
def m_L_law_c3 (rec : Int32 → zS → Option (Int32 × zS)) (n N : Nat) (xs : Nat → Int32) (v4 : Int32) (s : zS) : Option (Int32 × zS) :=
  zRd xs (v4 + (1 : Int32)) N fun x60 => zBd (m_L_value n x60 s) fun x61 s62 => zRd xs (v4 + (1 : Int32)) N fun x63 => zBd (m_X8_value n x63 (zSo s62 27)) fun x64 s65 => zLt (zMix 27 19 s62 s65) fun s66 => zBd (m_X8_thrown n (zSo s66 27)) fun x67 s68 => zLt (zMix 27 19 s66 s68) fun s69 => if x67 = x61 then (if x61 = 0 then (zRd (s69 46) (0 : Int32) 1 fun x73 => if (lg_cmp (Int32.toInt64 x73) (Int32.toInt64 x64)) = 0 then (zLt (v4 + (5 : Int32)) fun x75 => rec x75 s69) else (zRt (0 : Int32) s69)) else (zLt (v4 + (5 : Int32)) fun x72 => rec x72 s69)) else (zRt (0 : Int32) s69)
def m_L_law_c4 (rec : Int32 → zS → Option (Int32 × zS)) (n N : Nat) (xs : Nat → Int32) (v4 : Int32) (s : zS) : Option (Int32 × zS) :=
  zRd xs (v4 + (1 : Int32)) N fun x77 => zRd xs (v4 + (2 : Int32)) N fun x78 => zBd (m_L_boundFor n x77 x78 s) fun x79 s80 => zRd xs (v4 + (1 : Int32)) N fun x81 => zRd xs (v4 + (2 : Int32)) N fun x82 => zBd (m_X8_boundFor n x81 x82 (zSo s80 27)) fun x83 s84 => zLt (zMix 27 19 s80 s84) fun s85 => zBd (m_X8_thrown n (zSo s85 27)) fun x86 s87 => zLt (zMix 27 19 s85 s87) fun s88 => if x86 = x79 then (if x79 = 0 then (zRd (s88 46) (0 : Int32) 1 fun x92 => if (lg_cmp (Int32.toInt64 x92) (Int32.toInt64 x83)) = 0 then (zLt (v4 + (5 : Int32)) fun x94 => rec x94 s88) else (zRt (0 : Int32) s88)) else (zLt (v4 + (5 : Int32)) fun x91 => rec x91 s88)) else (zRt (0 : Int32) s88)
def m_L_law_c5 (rec : Int32 → zS → Option (Int32 × zS)) (n N : Nat) (xs : Nat → Int32) (v4 : Int32) (s : zS) : Option (Int32 × zS) :=
  zRd xs (v4 + (1 : Int32)) N fun x96 => zRd xs (v4 + (2 : Int32)) N fun x97 => zBd (m_L_dependsOn n x96 x97 s) fun x98 s99 => zRd xs (v4 + (1 : Int32)) N fun x100 => zRd xs (v4 + (2 : Int32)) N fun x101 => zBd (m_X8_dependsOn n x100 x101 (zSo s99 27)) fun x102 s103 => zLt (zMix 27 19 s99 s103) fun s104 => zBd (m_X8_thrown n (zSo s104 27)) fun x105 s106 => zLt (zMix 27 19 s104 s106) fun s107 => if x105 = x98 then (if x98 = 0 then (zRd (s107 46) (0 : Int32) 1 fun x111 => if x102 = 0 then (if (lg_cmp (Int32.toInt64 x111) (0 : Int64)) = 0 then (zLt (v4 + (5 : Int32)) fun x114 => rec x114 s107) else (zRt (0 : Int32) s107)) else (if (lg_cmp (Int32.toInt64 x111) (1 : Int64)) = 0 then (zLt (v4 + (5 : Int32)) fun x116 => rec x116 s107) else (zRt (0 : Int32) s107))) else (zLt (v4 + (5 : Int32)) fun x110 => rec x110 s107)) else (zRt (0 : Int32) s107)
def m_L_law_c6 (rec : Int32 → zS → Option (Int32 × zS)) (n N : Nat) (xs : Nat → Int32) (v4 : Int32) (s : zS) : Option (Int32 × zS) :=
  zRd xs (v4 + (1 : Int32)) N fun x118 => zBd (m_L_influence n x118 s) fun x119 s120 => zRd xs (v4 + (1 : Int32)) N fun x121 => zBd (m_X8_influence n x121 (zSo s120 27)) fun x122 s123 => zLt (zMix 27 19 s120 s123) fun s124 => zBd (m_X8_thrown n (zSo s124 27)) fun x125 s126 => zLt (zMix 27 19 s124 s126) fun s127 => if x125 = x119 then (if x119 = 0 then (zRd (s127 46) (0 : Int32) 1 fun x131 => if (lg_cmp (Int32.toInt64 x131) (Int32.toInt64 x122)) = 0 then (zLt (v4 + (5 : Int32)) fun x133 => rec x133 s127) else (zRt (0 : Int32) s127)) else (zLt (v4 + (5 : Int32)) fun x130 => rec x130 s127)) else (zRt (0 : Int32) s127)
def m_L_law_c7 (rec : Int32 → zS → Option (Int32 × zS)) (n N : Nat) (xs : Nat → Int32) (v4 : Int32) (s : zS) : Option (Int32 × zS) :=
  zRd xs (v4 + (1 : Int32)) N fun x135 => zRd xs (v4 + (2 : Int32)) N fun x136 => zBd (m_L_why n x135 x136 s) fun x137 s138 => zRd xs (v4 + (1 : Int32)) N fun x139 => zRd xs (v4 + (2 : Int32)) N fun x140 => zBd (m_X8_why n x139 x140 (zSo s138 27)) fun x141 s142 => zLt (zMix 27 19 s138 s142) fun s143 => zBd (m_X8_thrown n (zSo s143 27)) fun x144 s145 => zLt (zMix 27 19 s143 s145) fun s146 => if x144 = x137 then (if x137 = 0 then (zRd (s146 46) (0 : Int32) 1 fun x150 => if (lg_cmp (Int32.toInt64 x150) (Int32.toInt64 x141)) = 0 then (zLt (v4 + (5 : Int32)) fun x152 => rec x152 s146) else (zRt (0 : Int32) s146)) else (zLt (v4 + (5 : Int32)) fun x149 => rec x149 s146)) else (zRt (0 : Int32) s146)
def m_L_law_c8 (rec : Int32 → zS → Option (Int32 × zS)) (n N : Nat) (xs : Nat → Int32) (v4 : Int32) (s : zS) : Option (Int32 × zS) :=
  zRd xs (v4 + (1 : Int32)) N fun x154 => zRd xs (v4 + (2 : Int32)) N fun x155 => zBd (m_L_bracket n x154 x155 s) fun x156 s157 => zRd xs (v4 + (1 : Int32)) N fun x158 => zRd xs (v4 + (2 : Int32)) N fun x159 => zBd (m_X8_bracket n x158 x159 (zSo s157 27)) fun x160 s161 => zLt (zMix 27 19 s157 s161) fun s162 => zBd (m_X8_thrown n (zSo s162 27)) fun x163 s164 => zLt (zMix 27 19 s162 s164) fun s165 => if x163 = x156 then (if x156 = 0 then (zRd (s165 46) (0 : Int32) 1 fun x169 => if (lg_cmp (Int32.toInt64 x169) (Int32.toInt64 x160)) = 0 then (zLt (v4 + (5 : Int32)) fun x171 => rec x171 s165) else (zRt (0 : Int32) s165)) else (zLt (v4 + (5 : Int32)) fun x168 => rec x168 s165)) else (zRt (0 : Int32) s165)
def m_L_law_c9 (rec : Int32 → zS → Option (Int32 × zS)) (n N : Nat) (xs : Nat → Int32) (v4 : Int32) (s : zS) : Option (Int32 × zS) :=
  zBd (m_X7_dropBrackets n (zSo s 0)) fun x173 s174 => zLt (zMix 0 27 s s174) fun s175 => zBd (m_X8_dropBrackets n (zSo s175 27)) fun x176 s177 => zLt (zMix 27 19 s175 s177) fun s178 => if x173 = x176 then (zLt (v4 + (5 : Int32)) fun x180 => rec x180 s178) else (zRt (0 : Int32) s178)
def m_L_law_c10 (rec : Int32 → zS → Option (Int32 × zS)) (n N : Nat) (xs : Nat → Int32) (v4 : Int32) (s : zS) : Option (Int32 × zS) :=
  zRd xs (v4 + (1 : Int32)) N fun x182 => zBd (m_L_taxOn n x182 s) fun x183 s184 => zRd xs (v4 + (1 : Int32)) N fun x185 => zBd (m_X8_taxOn n x185 (zSo s184 27)) fun x186 s187 => zLt (zMix 27 19 s184 s187) fun s188 => zBd (m_X8_thrown n (zSo s188 27)) fun x189 s190 => zLt (zMix 27 19 s188 s190) fun s191 => if x189 = x183 then (if x183 = 0 then (zRd (s191 46) (0 : Int32) 1 fun x195 => if (lg_cmp (Int32.toInt64 x195) (Int32.toInt64 x186)) = 0 then (zLt (v4 + (5 : Int32)) fun x197 => rec x197 s191) else (zRt (0 : Int32) s191)) else (zLt (v4 + (5 : Int32)) fun x194 => rec x194 s191)) else (zRt (0 : Int32) s191)
def m_L_law_c11 (rec : Int32 → zS → Option (Int32 × zS)) (n N : Nat) (xs : Nat → Int32) (v4 : Int32) (s : zS) : Option (Int32 × zS) :=
  zRd xs (v4 + (1 : Int32)) N fun x199 => zRd xs (v4 + (2 : Int32)) N fun x200 => zBd (m_L_carry n x199 x200 s) fun x201 s202 => zRd xs (v4 + (1 : Int32)) N fun x203 => zRd xs (v4 + (2 : Int32)) N fun x204 => zBd (m_X8_carry n x203 x204 (zSo s202 27)) fun x205 s206 => zLt (zMix 27 19 s202 s206) fun s207 => zBd (m_X8_thrown n (zSo s207 27)) fun x208 s209 => zLt (zMix 27 19 s207 s209) fun s210 => if x208 = x201 then (if x201 = 0 then (zRd (s210 46) (0 : Int32) 1 fun x214 => if (lg_cmp (Int32.toInt64 x214) (Int32.toInt64 x205)) = 0 then (zLt (v4 + (5 : Int32)) fun x216 => rec x216 s210) else (zRt (0 : Int32) s210)) else (zLt (v4 + (5 : Int32)) fun x213 => rec x213 s210)) else (zRt (0 : Int32) s210)
def m_L_law_c12 (rec : Int32 → zS → Option (Int32 × zS)) (n N : Nat) (xs : Nat → Int32) (v4 : Int32) (s : zS) : Option (Int32 × zS) :=
  zBd (m_X7_carried n (zSo s 0)) fun x218 s219 => zLt (zMix 0 27 s s219) fun s220 => zBd (m_X8_carried n (zSo s220 27)) fun x221 s222 => zLt (zMix 27 19 s220 s222) fun s223 => if x218 = x221 then (zLt (v4 + (5 : Int32)) fun x225 => rec x225 s223) else (zRt (0 : Int32) s223)
def m_L_law_c13 (rec : Int32 → zS → Option (Int32 × zS)) (n N : Nat) (xs : Nat → Int32) (v4 : Int32) (s : zS) : Option (Int32 × zS) :=
  zRd xs (v4 + (1 : Int32)) N fun x227 => zBd (m_L_carriedAt n x227 s) fun x228 s229 => zRd xs (v4 + (1 : Int32)) N fun x230 => zBd (m_X8_carriedAt n x230 (zSo s229 27)) fun x231 s232 => zLt (zMix 27 19 s229 s232) fun s233 => zBd (m_X8_thrown n (zSo s233 27)) fun x234 s235 => zLt (zMix 27 19 s233 s235) fun s236 => if x234 = x228 then (if x228 = 0 then (zRd (s236 46) (0 : Int32) 1 fun x240 => if (lg_cmp (Int32.toInt64 x240) (Int32.toInt64 x231)) = 0 then (zLt (v4 + (5 : Int32)) fun x242 => rec x242 s236) else (zRt (0 : Int32) s236)) else (zLt (v4 + (5 : Int32)) fun x239 => rec x239 s236)) else (zRt (0 : Int32) s236)
def m_L_law_c14 (rec : Int32 → zS → Option (Int32 × zS)) (n N : Nat) (xs : Nat → Int32) (v4 : Int32) (s : zS) : Option (Int32 × zS) :=
  zBd (m_X7_year n (zSo s 0)) fun x244 s245 => zLt (zMix 0 27 s s245) fun s246 => zBd (m_X8_year n (zSo s246 27)) fun x247 s248 => zLt (zMix 27 19 s246 s248) fun s249 => if x244 = x247 then (zLt (v4 + (5 : Int32)) fun x251 => rec x251 s249) else (zRt (0 : Int32) s249)
def m_L_law_c15 (rec : Int32 → zS → Option (Int32 × zS)) (n N : Nat) (xs : Nat → Int32) (v4 : Int32) (s : zS) : Option (Int32 × zS) :=
  zBd (m_X7_closeYear n (zSo s 0)) fun x253 s254 => zLt (zMix 0 27 s s254) fun s255 => zBd (m_X8_closeYear n (zSo s255 27)) fun x256 s257 => zLt (zMix 27 19 s255 s257) fun s258 => if x253 = x256 then (zLt (v4 + (5 : Int32)) fun x260 => rec x260 s258) else (zRt (0 : Int32) s258)
def m_L_law_c16 (rec : Int32 → zS → Option (Int32 × zS)) (n N : Nat) (xs : Nat → Int32) (v4 : Int32) (s : zS) : Option (Int32 × zS) :=
  zRd xs (v4 + (1 : Int32)) N fun x262 => zRd xs (v4 + (2 : Int32)) N fun x263 => zBd (m_L_addCredit n x262 x263 s) fun x264 s265 => zRd xs (v4 + (1 : Int32)) N fun x266 => zRd xs (v4 + (2 : Int32)) N fun x267 => zBd (m_X8_addCredit n x266 x267 (zSo s265 27)) fun x268 s269 => zLt (zMix 27 19 s265 s269) fun s270 => zBd (m_X8_thrown n (zSo s270 27)) fun x271 s272 => zLt (zMix 27 19 s270 s272) fun s273 => if x271 = x264 then (if x264 = 0 then (zRd (s273 46) (0 : Int32) 1 fun x277 => if (lg_cmp (Int32.toInt64 x277) (Int32.toInt64 x268)) = 0 then (zLt (v4 + (5 : Int32)) fun x279 => rec x279 s273) else (zRt (0 : Int32) s273)) else (zLt (v4 + (5 : Int32)) fun x276 => rec x276 s273)) else (zRt (0 : Int32) s273)
def m_L_law_c17 (rec : Int32 → zS → Option (Int32 × zS)) (n N : Nat) (xs : Nat → Int32) (v4 : Int32) (s : zS) : Option (Int32 × zS) :=
  zBd (m_L_dropCredit n s) fun x281 s282 => zBd (m_X8_dropCredit n (zSo s282 27)) fun x283 s284 => zLt (zMix 27 19 s282 s284) fun s285 => zBd (m_X8_thrown n (zSo s285 27)) fun x286 s287 => zLt (zMix 27 19 s285 s287) fun s288 => if x286 = x281 then (if x281 = 0 then (zRd (s288 46) (0 : Int32) 1 fun x292 => if (lg_cmp (Int32.toInt64 x292) (Int32.toInt64 x283)) = 0 then (zLt (v4 + (5 : Int32)) fun x294 => rec x294 s288) else (zRt (0 : Int32) s288)) else (zLt (v4 + (5 : Int32)) fun x291 => rec x291 s288)) else (zRt (0 : Int32) s288)
def m_L_law_c18 (rec : Int32 → zS → Option (Int32 × zS)) (n N : Nat) (xs : Nat → Int32) (v4 : Int32) (s : zS) : Option (Int32 × zS) :=
  zRd xs (v4 + (1 : Int32)) N fun x296 => zRd xs (v4 + (2 : Int32)) N fun x297 => zBd (m_L_creditAt n x296 x297 s) fun x298 s299 => zRd xs (v4 + (1 : Int32)) N fun x300 => zRd xs (v4 + (2 : Int32)) N fun x301 => zBd (m_X8_creditAt n x300 x301 (zSo s299 27)) fun x302 s303 => zLt (zMix 27 19 s299 s303) fun s304 => zBd (m_X8_thrown n (zSo s304 27)) fun x305 s306 => zLt (zMix 27 19 s304 s306) fun s307 => if x305 = x298 then (if x298 = 0 then (zRd (s307 46) (0 : Int32) 1 fun x311 => if (lg_cmp (Int32.toInt64 x311) (Int32.toInt64 x302)) = 0 then (zLt (v4 + (5 : Int32)) fun x313 => rec x313 s307) else (zRt (0 : Int32) s307)) else (zLt (v4 + (5 : Int32)) fun x310 => rec x310 s307)) else (zRt (0 : Int32) s307)
def m_L_law_c19 (rec : Int32 → zS → Option (Int32 × zS)) (n N : Nat) (xs : Nat → Int32) (v4 : Int32) (s : zS) : Option (Int32 × zS) :=
  zRd xs (v4 + (1 : Int32)) N fun x315 => zBd (m_L_afterCredits n x315 s) fun x316 s317 => zRd xs (v4 + (1 : Int32)) N fun x318 => zBd (m_X8_afterCredits n x318 (zSo s317 27)) fun x319 s320 => zLt (zMix 27 19 s317 s320) fun s321 => zBd (m_X8_thrown n (zSo s321 27)) fun x322 s323 => zLt (zMix 27 19 s321 s323) fun s324 => if x322 = x316 then (if x316 = 0 then (zRd (s324 46) (0 : Int32) 1 fun x328 => if (lg_cmp (Int32.toInt64 x328) (Int32.toInt64 x319)) = 0 then (zLt (v4 + (5 : Int32)) fun x330 => rec x330 s324) else (zRt (0 : Int32) s324)) else (zLt (v4 + (5 : Int32)) fun x327 => rec x327 s324)) else (zRt (0 : Int32) s324)
def m_L_law_c20 (rec : Int32 → zS → Option (Int32 × zS)) (n N : Nat) (xs : Nat → Int32) (v4 : Int32) (s : zS) : Option (Int32 × zS) :=
  zRd xs (v4 + (1 : Int32)) N fun x332 => zBd (m_L_bestSum n x332 s) fun x333 s334 => zRd xs (v4 + (1 : Int32)) N fun x335 => zBd (m_X8_bestSum n x335 (zSo s334 27)) fun x336 s337 => zLt (zMix 27 19 s334 s337) fun s338 => zBd (m_X8_thrown n (zSo s338 27)) fun x339 s340 => zLt (zMix 27 19 s338 s340) fun s341 => if x339 = x333 then (if x333 = 0 then (zRd (s341 46) (0 : Int32) 1 fun x345 => if (lg_cmp (Int32.toInt64 x345) (Int32.toInt64 x336)) = 0 then (zLt (v4 + (5 : Int32)) fun x347 => rec x347 s341) else (zRt (0 : Int32) s341)) else (zLt (v4 + (5 : Int32)) fun x344 => rec x344 s341)) else (zRt (0 : Int32) s341)
def m_L_law_j23 (n N : Nat) (xs : Nat → Int32) : Nat → Int32 → zS → Option (Int32 × zS)
  | 0, _, _ => none
  | f + 1, v4, s =>
    if ((Int32.ofNat N) - (5 : Int32)) < v4 then (zRt (1 : Int32) s) else (zRd xs v4 N fun x2 => zLt (x2 &&& (31 : Int32)) fun x3 => if x3 = (0 : Int32) then (m_L_law_c0 (m_L_law_j23 n N xs f) n N xs v4 s) else if x3 = (1 : Int32) then (m_L_law_c1 (m_L_law_j23 n N xs f) n N xs v4 s) else if x3 = (2 : Int32) then (m_L_law_c2 (m_L_law_j23 n N xs f) n N xs v4 s) else if x3 = (3 : Int32) then (m_L_law_c3 (m_L_law_j23 n N xs f) n N xs v4 s) else if x3 = (4 : Int32) then (m_L_law_c4 (m_L_law_j23 n N xs f) n N xs v4 s) else if x3 = (5 : Int32) then (m_L_law_c5 (m_L_law_j23 n N xs f) n N xs v4 s) else if x3 = (6 : Int32) then (m_L_law_c6 (m_L_law_j23 n N xs f) n N xs v4 s) else if x3 = (7 : Int32) then (m_L_law_c7 (m_L_law_j23 n N xs f) n N xs v4 s) else if x3 = (8 : Int32) then (m_L_law_c8 (m_L_law_j23 n N xs f) n N xs v4 s) else if x3 = (9 : Int32) then (m_L_law_c9 (m_L_law_j23 n N xs f) n N xs v4 s) else if x3 = (10 : Int32) then (m_L_law_c10 (m_L_law_j23 n N xs f) n N xs v4 s) else if x3 = (11 : Int32) then (m_L_law_c11 (m_L_law_j23 n N xs f) n N xs v4 s) else if x3 = (12 : Int32) then (m_L_law_c12 (m_L_law_j23 n N xs f) n N xs v4 s) else if x3 = (13 : Int32) then (m_L_law_c13 (m_L_law_j23 n N xs f) n N xs v4 s) else if x3 = (14 : Int32) then (m_L_law_c14 (m_L_law_j23 n N xs f) n N xs v4 s) else if x3 = (15 : Int32) then (m_L_law_c15 (m_L_law_j23 n N xs f) n N xs v4 s) else if x3 = (16 : Int32) then (m_L_law_c16 (m_L_law_j23 n N xs f) n N xs v4 s) else if x3 = (17 : Int32) then (m_L_law_c17 (m_L_law_j23 n N xs f) n N xs v4 s) else if x3 = (18 : Int32) then (m_L_law_c18 (m_L_law_j23 n N xs f) n N xs v4 s) else if x3 = (19 : Int32) then (m_L_law_c19 (m_L_law_j23 n N xs f) n N xs v4 s) else if x3 = (20 : Int32) then (m_L_law_c20 (m_L_law_j23 n N xs f) n N xs v4 s) else (zLt (v4 + (5 : Int32)) fun x348 => m_L_law_j23 n N xs f x348 s))
