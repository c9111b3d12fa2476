/-! the two layouts: the cells of an engine and of a reference, with their references -/
def zLX : List zK := [.inr (7, [3, 8, 12, 15, 18, 23, 25, 27]), .inr (5, [4, 5, 6, 7]), .inl (0, 16), .inl (0, 16), .inl (0, 16), .inl (0, 16), .inr (4, [9, 10, 11, 0, 0, 0, 0]), .inl (0, 16), .inl (0, 16), .inl (0, 16), .inr (1, [13, 14, 0]), .inl (0, 5), .inl (0, 5), .inr (0, [16, 17, 0, 0]), .inl (0, 8), .inl (0, 8), .inr (2, [19, 20, 21, 22, 0]), .inl (0, 5), .inl (0, 5), .inl (0, 5), .inl (0, 5), .inr (6, [3, 8, 12, 15, 24, 0]), .inl (0, 16), .inr (6, [3, 8, 12, 15, 26, 0]), .inl (0, 16), .inr (3, [28, 0, 0]), .inl (0, 16)]
theorem kX0 : zLX[0]? = some (.inr (7, [3, 8, 12, 15, 18, 23, 25, 27])) := rfl
theorem kX1 : zLX[1]? = some (.inr (5, [4, 5, 6, 7])) := rfl
theorem kX2 : zLX[2]? = some (.inl (0, 16)) := rfl
theorem kX3 : zLX[3]? = some (.inl (0, 16)) := rfl
theorem kX4 : zLX[4]? = some (.inl (0, 16)) := rfl
theorem kX5 : zLX[5]? = some (.inl (0, 16)) := rfl
theorem kX6 : zLX[6]? = some (.inr (4, [9, 10, 11, 0, 0, 0, 0])) := rfl
theorem kX7 : zLX[7]? = some (.inl (0, 16)) := rfl
theorem kX8 : zLX[8]? = some (.inl (0, 16)) := rfl
theorem kX9 : zLX[9]? = some (.inl (0, 16)) := rfl
theorem kX10 : zLX[10]? = some (.inr (1, [13, 14, 0])) := rfl
theorem kX11 : zLX[11]? = some (.inl (0, 5)) := rfl
theorem kX12 : zLX[12]? = some (.inl (0, 5)) := rfl
theorem kX13 : zLX[13]? = some (.inr (0, [16, 17, 0, 0])) := rfl
theorem kX14 : zLX[14]? = some (.inl (0, 8)) := rfl
theorem kX15 : zLX[15]? = some (.inl (0, 8)) := rfl
theorem kX16 : zLX[16]? = some (.inr (2, [19, 20, 21, 22, 0])) := rfl
theorem kX17 : zLX[17]? = some (.inl (0, 5)) := rfl
theorem kX18 : zLX[18]? = some (.inl (0, 5)) := rfl
theorem kX19 : zLX[19]? = some (.inl (0, 5)) := rfl
theorem kX20 : zLX[20]? = some (.inl (0, 5)) := rfl
theorem kX21 : zLX[21]? = some (.inr (6, [3, 8, 12, 15, 24, 0])) := rfl
theorem kX22 : zLX[22]? = some (.inl (0, 16)) := rfl
theorem kX23 : zLX[23]? = some (.inr (6, [3, 8, 12, 15, 26, 0])) := rfl
theorem kX24 : zLX[24]? = some (.inl (0, 16)) := rfl
theorem kX25 : zLX[25]? = some (.inr (3, [28, 0, 0])) := rfl
theorem kX26 : zLX[26]? = some (.inl (0, 16)) := rfl
theorem vc0 : vwCl[0]? = some (RX0, TX0, 4) := rfl
theorem vc1 : vwCl[1]? = some (RX1, TX1, 3) := rfl
theorem vc2 : vwCl[2]? = some (RX2, TX2, 5) := rfl
theorem vc3 : vwCl[3]? = some (RX3, TX3, 3) := rfl
theorem vc4 : vwCl[4]? = some (RX4, TX4, 7) := rfl
theorem vc5 : vwCl[5]? = some (RX5, TX5, 4) := rfl
theorem vc6 : vwCl[6]? = some (RX6, TX6, 6) := rfl
theorem vc7 : vwCl[7]? = some (RX7, TX7, 8) := rfl
/-! the models of the methods, written by program out of the bytecode -/
def m_X0_now (n : Nat)  (s : zS) : Option (Int32 × zS) :=
  zRt (s 13 3) s
def m_X0_size (n : Nat)  (s : zS) : Option (Int32 × zS) :=
  zRt (s 13 2) s
def m_X7_at (n : Nat) (k N : Nat) (v1 : Int32) (s : zS) : Option (Int32 × zS) :=
  if v1 < 0 then (zRt (0 : Int32) s) else (if (Int32.ofNat N) ≤ v1 then (zRt (0 : Int32) s) else (zRd (s k) v1 N fun x3 => zRt x3 s))
def m_X0_leftAt (n : Nat) (v1 : Int32) (s : zS) : Option (Int32 × zS) :=
  zBd (m_X7_at n 14 8 v1 s) fun x1 s2 => zRt x1 s2
def m_X0_total_j4 (n : Nat) : Nat → Int32 → Int32 → zS → Option (Int32 × zS)
  | 0, _, _, _ => none
  | f + 1, v1, v2, s =>
    if (s 13 2) ≤ v2 then (zRt v1 s) else (zBd (m_X0_leftAt n v2 s) fun x2 s3 => zLt (v1 + x2) fun x4 => zLt (v2 + (1 : Int32)) fun x5 => m_X0_total_j4 n f x4 x5 s3)
def m_X0_total (n : Nat)  (s : zS) : Option (Int32 × zS) :=
  m_X0_total_j4  n n (0 : Int32) (0 : Int32) s
def m_X7_put (n : Nat) (k N : Nat) (v1 : Int32) (v2 : Int32) (s : zS) : Option (Int32 × zS) :=
  if v1 < 0 then (zRt 0 s) else (if (Int32.ofNat N) ≤ v1 then (zRt 0 s) else (zWr s k v1 N v2 fun s3 => zRt 0 s3))
def m_X0_move (n : Nat) (v1 : Int32) (v2 : Int32) (s : zS) : Option (Int32 × zS) :=
  zBd (m_X7_at n 14 8 v1 s) fun x1 s2 => zBd (m_X7_put n 14 8 v2 x1 s2) fun x3 s4 => zBd (m_X7_at n 15 8 v1 s4) fun x5 s6 => zBd (m_X7_put n 15 8 v2 x5 s6) fun x7 s8 => zRt 0 s8
def m_X0_add_j37 (n : Nat) (v1 : Int32) (v2 : Int32) (v3 : Int32) (s : zS) : Option (Int32 × zS) :=
  zBd (m_X7_put n 14 8 v3 v1 s) fun x1 s2 => zBd (m_X7_put n 15 8 v3 v2 s2) fun x3 s4 => zLt (zU s4 13 2 ((s4 13 2) + (1 : Int32))) fun s5 => zRt 0 s5
def m_X0_add_j5 (n : Nat) : Nat → Int32 → Int32 → Int32 → zS → Option (Int32 × zS)
  | 0, _, _, _, _ => none
  | f + 1, v1, v2, v3, s =>
    if v3 ≤ 0 then (m_X0_add_j37  n v1 v2 v3 s) else (zBd (m_X7_at n 15 8 (v3 - (1 : Int32)) s) fun x7 s8 => if x7 ≤ v2 then (m_X0_add_j37  n v1 v2 v3 s8) else (zBd (m_X0_move n (v3 - (1 : Int32)) v3 s8) fun x10 s11 => zLt (v3 + (-1 : Int32)) fun x12 => m_X0_add_j5 n f v1 v2 x12 s11))
def m_X0_add (n : Nat) (v1 : Int32) (v2 : Int32) (s : zS) : Option (Int32 × zS) :=
  zLt (s 13 2) fun x13 => m_X0_add_j5  n n v1 v2 x13 s
def m_X0_take_j4 (n : Nat) : Nat → Int32 → Int32 → Int32 → zS → Option (Int32 × zS)
  | 0, _, _, _, _ => none
  | f + 1, v1, v2, v3, s =>
    if (s 13 2) ≤ v3 then (zRt (v1 - v2) s) else (zBd (m_X0_leftAt n v3 s) fun x2 s3 => zLt (if x2 < v2 then x2 else v2) fun x4 => zBd (m_X0_leftAt n v3 s3) fun x5 s6 => zBd (m_X7_put n 14 8 v3 (x5 - x4) s6) fun x7 s8 => zLt (v2 - x4) fun x9 => zLt (v3 + (1 : Int32)) fun x10 => m_X0_take_j4 n f v1 x9 x10 s8)
def m_X0_take (n : Nat) (v1 : Int32) (s : zS) : Option (Int32 × zS) :=
  m_X0_take_j4  n n v1 v1 (0 : Int32) s
def m_X0_endYear_j4 (n : Nat) : Nat → Int32 → Int32 → zS → Option (Int32 × zS)
  | 0, _, _, _ => none
  | f + 1, v1, v2, s =>
    if (s 13 2) ≤ v2 then (zLt (zU s 13 2 v1) fun s2 => zLt (zU s2 13 3 ((s2 13 3) + (1 : Int32))) fun s3 => zRt 0 s3) else (zBd (m_X0_leftAt n v2 s) fun x4 s5 => if x4 ≤ 0 then (zLt (v2 + (1 : Int32)) fun x7 => m_X0_endYear_j4 n f v1 x7 s5) else (zBd (m_X7_at n 15 8 v2 s5) fun x8 s9 => if x8 ≤ (s9 13 3) then (zLt (v2 + (1 : Int32)) fun x11 => m_X0_endYear_j4 n f v1 x11 s9) else (zBd (m_X0_move n v2 v1 s9) fun x12 s13 => zLt (v1 + (1 : Int32)) fun x14 => zLt (v2 + (1 : Int32)) fun x15 => m_X0_endYear_j4 n f x14 x15 s13)))
def m_X0_endYear (n : Nat)  (s : zS) : Option (Int32 × zS) :=
  m_X0_endYear_j4  n n (0 : Int32) (0 : Int32) s
def m_X1_size (n : Nat)  (s : zS) : Option (Int32 × zS) :=
  zRt (s 10 2) s
def m_X1_clear (n : Nat)  (s : zS) : Option (Int32 × zS) :=
  zLt (zU s 10 2 (0 : Int32)) fun s1 => zRt 0 s1
def m_X1_placeFor_j2 (n : Nat) : Nat → Int32 → Int32 → zS → Option (Int32 × zS)
  | 0, _, _, _ => none
  | f + 1, v1, v2, s =>
    if (s 10 2) ≤ v2 then (zRt v2 s) else (zBd (m_X7_at n 11 5 v2 s) fun x2 s3 => if v1 ≤ x2 then (zRt v2 s3) else (zLt (v2 + (1 : Int32)) fun x5 => m_X1_placeFor_j2 n f v1 x5 s3))
def m_X1_placeFor (n : Nat) (v1 : Int32) (s : zS) : Option (Int32 × zS) :=
  m_X1_placeFor_j2  n n v1 (0 : Int32) s
def m_X1_isAt (n : Nat) (v1 : Int32) (v2 : Int32) (s : zS) : Option (Int32 × zS) :=
  if (s 10 2) ≤ v1 then (zRt (0 : Int32) s) else (zBd (m_X7_at n 11 5 v1 s) fun x2 s3 => if x2 = v2 then (zRt (1 : Int32) s3) else (zRt (0 : Int32) s3))
def m_X1_hasRoomFor (n : Nat) (v1 : Int32) (s : zS) : Option (Int32 × zS) :=
  if (s 10 2) < (5 : Int32) then (zRt (1 : Int32) s) else (zBd (m_X1_placeFor n v1 s) fun x2 s3 => zBd (m_X1_isAt n x2 v1 s3) fun x4 s5 => if x4 = 0 then (zRt (0 : Int32) s5) else (zRt (1 : Int32) s5))
def m_X1_set_j23 (n : Nat) : Nat → Int32 → Int32 → Int32 → Int32 → zS → Option (Int32 × zS)
  | 0, _, _, _, _, _ => none
  | f + 1, v1, v2, v3, v4, s =>
    if v4 < v3 then (zBd (m_X7_put n 11 5 v3 v1 s) fun x2 s3 => zLt (zU s3 10 2 ((s3 10 2) + (1 : Int32))) fun s4 => zBd (m_X7_put n 12 5 v3 v2 s4) fun x5 s6 => zRt 0 s6) else (zBd (m_X7_at n 11 5 v4 s) fun x7 s8 => zBd (m_X7_put n 11 5 (v4 + (1 : Int32)) x7 s8) fun x9 s10 => zBd (m_X7_at n 12 5 v4 s10) fun x11 s12 => zBd (m_X7_put n 12 5 (v4 + (1 : Int32)) x11 s12) fun x13 s14 => zLt (v4 + (-1 : Int32)) fun x15 => m_X1_set_j23 n f v1 v2 v3 x15 s14)
def m_X1_set (n : Nat) (v1 : Int32) (v2 : Int32) (s : zS) : Option (Int32 × zS) :=
  zBd (m_X1_placeFor n v1 s) fun x16 s17 => zBd (m_X1_isAt n x16 v1 s17) fun x18 s19 => if x18 = 0 then (zLt ((s19 10 2) - (1 : Int32)) fun x23 => m_X1_set_j23  n n v1 v2 x16 x23 s19) else (zBd (m_X7_put n 12 5 x16 v2 s19) fun x21 s22 => zRt 0 s22)
def m_X7_thousandths (n : Nat) (v0 : Int32) (v1 : Int32) (s : zS) : Option (Int32 × zS) :=
  zRt (Int64.toInt32 (((Int32.toInt64 v0) * (Int32.toInt64 v1)) / (1000 : Int64))) s
def m_X1_tax_j40 (rec4 : Int32 → Int32 → Int32 → zS → Option (Int32 × zS)) (n : Nat) (v1 : Int32) (v2 : Int32) (v3 : Int32) (t0 : Int32) (s : zS) : Option (Int32 × zS) :=
  zBd (m_X7_at n 11 5 v3 s) fun x1 s2 => zLt (if (t0 - x1) < (0 : Int32) then (0 : Int32) else (t0 - x1)) fun x3 => zBd (m_X7_at n 12 5 v3 s2) fun x4 s5 => zBd (m_X7_thousandths n x3 x4 s5) fun x6 s7 => zLt (v2 + x6) fun x8 => zLt (v3 + (1 : Int32)) fun x9 => rec4 v1 x8 x9 s7
def m_X1_tax_j4 (n : Nat) : Nat → Int32 → Int32 → Int32 → zS → Option (Int32 × zS)
  | 0, _, _, _, _ => none
  | f + 1, v1, v2, v3, s =>
    if (s 10 2) ≤ v3 then (zRt v2 s) else (if (s 10 2) ≤ (v3 + (1 : Int32)) then (m_X1_tax_j40 (m_X1_tax_j4 n f) n v1 v2 v3 v1 s) else (zBd (m_X7_at n 11 5 (v3 + (1 : Int32)) s) fun x12 s13 => m_X1_tax_j40 (m_X1_tax_j4 n f) n v1 v2 v3 (if x12 < v1 then x12 else v1) s13))
def m_X1_tax (n : Nat) (v1 : Int32) (s : zS) : Option (Int32 × zS) :=
  m_X1_tax_j4  n n v1 (0 : Int32) (0 : Int32) s
def m_X2_size (n : Nat)  (s : zS) : Option (Int32 × zS) :=
  zRt (s 16 4) s
def m_X2_add (n : Nat) (v1 : Int32) (v2 : Int32) (s : zS) : Option (Int32 × zS) :=
  zBd (m_X7_put n 17 5 (s 16 4) v1 s) fun x1 s2 => zBd (m_X7_put n 18 5 (s2 16 4) v2 s2) fun x3 s4 => zLt (zU s4 16 4 ((s4 16 4) + (1 : Int32))) fun s5 => zRt 0 s5
def m_X2_dropLast (n : Nat)  (s : zS) : Option (Int32 × zS) :=
  zLt (zU s 16 4 ((s 16 4) - (1 : Int32))) fun s1 => zRt 0 s1
def m_X2_total_j4 (n : Nat) : Nat → Int32 → Int32 → zS → Option (Int32 × zS)
  | 0, _, _, _ => none
  | f + 1, v1, v2, s =>
    if (s 16 4) ≤ v2 then (zRt v1 s) else (zBd (m_X7_at n 17 5 v2 s) fun x2 s3 => zLt (v1 + x2) fun x4 => zLt (v2 + (1 : Int32)) fun x5 => m_X2_total_j4 n f x4 x5 s3)
def m_X2_total (n : Nat)  (s : zS) : Option (Int32 × zS) :=
  m_X2_total_j4  n n (0 : Int32) (0 : Int32) s
def m_X2_bestAt (n : Nat) (v1 : Int32) (s : zS) : Option (Int32 × zS) :=
  zBd (m_X7_at n 20 5 v1 s) fun x1 s2 => zRt x1 s2
def m_X2_sumInOrder_j7 (n : Nat) : Nat → Int32 → Int32 → Int32 → zS → Option (Int32 × zS)
  | 0, _, _, _, _ => none
  | f + 1, v2, v3, v4, s =>
    if (s 16 4) ≤ v4 then (zRt v3 s) else (zBd (m_X7_at n 19 5 v4 s) fun x2 s3 => zBd (m_X7_at n 17 5 x2 s3) fun x4 s5 => zLt (if x4 < v2 then x4 else v2) fun x6 => zLt (v2 - x6) fun x7 => zBd (m_X7_at n 17 5 x2 s5) fun x8 s9 => zBd (m_X7_at n 18 5 x2 s9) fun x10 s11 => zBd (m_X7_thousandths n (x8 - x6) x10 s11) fun x12 s13 => zLt (v3 + (x6 + x12)) fun x14 => zLt (v4 + (1 : Int32)) fun x15 => m_X2_sumInOrder_j7 n f x7 x14 x15 s13)
def m_X2_sumInOrder (n : Nat) (v1 : Int32) (s : zS) : Option (Int32 × zS) :=
  m_X2_sumInOrder_j7  n n v1 (0 : Int32) (0 : Int32) s
def m_X2_keepOrder_j2 (n : Nat) : Nat → Int32 → zS → Option (Int32 × zS)
  | 0, _, _ => none
  | f + 1, v1, s =>
    if (s 16 4) ≤ v1 then (zRt 0 s) else (zBd (m_X7_at n 19 5 v1 s) fun x2 s3 => zBd (m_X7_put n 20 5 v1 x2 s3) fun x4 s5 => zLt (v1 + (1 : Int32)) fun x6 => m_X2_keepOrder_j2 n f x6 s5)
def m_X2_keepOrder (n : Nat)  (s : zS) : Option (Int32 × zS) :=
  m_X2_keepOrder_j2  n n (0 : Int32) s
def m_X2_swap (n : Nat) (v1 : Int32) (v2 : Int32) (s : zS) : Option (Int32 × zS) :=
  zBd (m_X7_at n 19 5 v1 s) fun x1 s2 => zBd (m_X7_at n 19 5 v2 s2) fun x3 s4 => zBd (m_X7_put n 19 5 v1 x3 s4) fun x5 s6 => zBd (m_X7_put n 19 5 v2 x1 s6) fun x7 s8 => zRt 0 s8
def m_X2_toNextOrder_j99 (n : Nat) : Nat → Int32 → Int32 → zS → Option (Int32 × zS)
  | 0, _, _, _ => none
  | f + 1, v3, v4, s =>
    if v4 ≤ v3 then (zRt (1 : Int32) s) else (zBd (m_X2_swap n v3 v4 s) fun x2 s3 => zLt (v3 + (1 : Int32)) fun x4 => zLt (v4 + (-1 : Int32)) fun x5 => m_X2_toNextOrder_j99 n f x4 x5 s3)
def m_X2_toNextOrder_j81 (n : Nat) (v1 : Int32) (v2 : Int32) (s : zS) : Option (Int32 × zS) :=
  zBd (m_X2_swap n v1 v2 s) fun x6 s7 => zLt (v1 + (1 : Int32)) fun x8 => zLt ((s7 16 4) - (1 : Int32)) fun x9 => m_X2_toNextOrder_j99  n n x8 x9 s7
def m_X2_toNextOrder_j51 (n : Nat) : Nat → Int32 → Int32 → zS → Option (Int32 × zS)
  | 0, _, _, _ => none
  | f + 1, v1, v2, s =>
    if v2 ≤ v1 then (m_X2_toNextOrder_j81  n v1 v2 s) else (zBd (m_X7_at n 19 5 v2 s) fun x11 s12 => zBd (m_X7_at n 19 5 v1 s12) fun x13 s14 => if x13 ≤ x11 then (m_X2_toNextOrder_j81  n v1 v2 s14) else (zLt (v2 + (-1 : Int32)) fun x16 => m_X2_toNextOrder_j51 n f v1 x16 s14))
def m_X2_toNextOrder_j38 (n : Nat) (v1 : Int32) (s : zS) : Option (Int32 × zS) :=
  if 0 ≤ v1 then (zLt ((s 16 4) - (1 : Int32)) fun x18 => m_X2_toNextOrder_j51  n n v1 x18 s) else (zRt (0 : Int32) s)
def m_X2_toNextOrder_j7 (n : Nat) : Nat → Int32 → zS → Option (Int32 × zS)
  | 0, _, _ => none
  | f + 1, v1, s =>
    if v1 < 0 then (m_X2_toNextOrder_j38  n v1 s) else (zBd (m_X7_at n 19 5 v1 s) fun x20 s21 => zBd (m_X7_at n 19 5 (v1 + (1 : Int32)) s21) fun x22 s23 => if x20 ≤ x22 then (m_X2_toNextOrder_j38  n v1 s23) else (zLt (v1 + (-1 : Int32)) fun x25 => m_X2_toNextOrder_j7 n f x25 s23))
def m_X2_toNextOrder (n : Nat)  (s : zS) : Option (Int32 × zS) :=
  zLt ((s 16 4) - (2 : Int32)) fun x26 => m_X2_toNextOrder_j7  n n x26 s
def m_X2_findBest_j29 (n : Nat) : Nat → Int32 → Int32 → Int32 → Int32 → zS → Option (Int32 × zS)
  | 0, _, _, _, _, _ => none
  | f + 1, v1, v2, v3, v4, s =>
    if (120 : Int32) ≤ v4 then (zRt v2 s) else (if v3 = 0 then (zRt v2 s) else (zBd (m_X2_sumInOrder n v1 s) fun x3 s4 => if x3 ≤ v2 then (zBd (m_X2_toNextOrder n s4) fun x6 s7 => zLt (v4 + (1 : Int32)) fun x8 => m_X2_findBest_j29 n f v1 v2 x6 x8 s7) else (zBd (m_X2_keepOrder n s4) fun x9 s10 => zBd (m_X2_toNextOrder n s10) fun x11 s12 => zLt (v4 + (1 : Int32)) fun x13 => m_X2_findBest_j29 n f v1 x3 x11 x13 s12)))
def m_X2_findBest_j2 (n : Nat) : Nat → Int32 → Int32 → zS → Option (Int32 × zS)
  | 0, _, _, _ => none
  | f + 1, v1, v2, s =>
    if (5 : Int32) ≤ v2 then (m_X2_findBest_j29  n n v1 (-1 : Int32) (1 : Int32) (0 : Int32) s) else (zBd (m_X7_put n 19 5 v2 v2 s) fun x15 s16 => zLt (v2 + (1 : Int32)) fun x17 => m_X2_findBest_j2 n f v1 x17 s16)
def m_X2_findBest (n : Nat) (v1 : Int32) (s : zS) : Option (Int32 × zS) :=
  m_X2_findBest_j2  n n v1 (0 : Int32) s
def m_X7_bit (n : Nat) (v0 : Int32) (s : zS) : Option (Int32 × zS) :=
  zRt ((1 : Int32) <<< (v0 &&& 31)) s
def m_X7_has (n : Nat) (v0 : Int32) (v1 : Int32) (s : zS) : Option (Int32 × zS) :=
  zBd (m_X7_bit n v1 s) fun x1 s2 => if (v0 &&& x1) = 0 then (zRt (0 : Int32) s2) else (zRt (1 : Int32) s2)
def m_X3_add (n : Nat) (v1 : Int32) (s : zS) : Option (Int32 × zS) :=
  zBd (m_X7_has n (s 25 2) v1 s) fun x1 s2 => if x1 = 0 then (zBd (m_X7_put n 26 16 (s2 25 1) v1 s2) fun x4 s5 => zLt (zU s5 25 1 ((s5 25 1) + (1 : Int32))) fun s6 => zBd (m_X7_bit n v1 s6) fun x7 s8 => zLt (zU s8 25 2 ((s6 25 2) ||| x7)) fun s9 => zRt 0 s9) else (zRt 0 s2)
def m_X5_first (n : Nat) (v1 : Int32) (s : zS) : Option (Int32 × zS) :=
  zBd (m_X7_at n 3 16 v1 s) fun x1 s2 => zRt x1 s2
def m_X5_kind (n : Nat) (v1 : Int32) (s : zS) : Option (Int32 × zS) :=
  zBd (m_X7_at n 2 16 v1 s) fun x1 s2 => zRt x1 s2
def m_X6_of (n : Nat) (v1 : Int32) (s : zS) : Option (Int32 × zS) :=
  zBd (m_X7_at n 22 16 v1 s) fun x1 s2 => zRt x1 s2
def m_X5_second (n : Nat) (v1 : Int32) (s : zS) : Option (Int32 × zS) :=
  zBd (m_X7_at n 4 16 v1 s) fun x1 s2 => zRt x1 s2
def m_X3_addReasons (n : Nat) (v1 : Int32) (s : zS) : Option (Int32 × zS) :=
  zBd (m_X5_first n v1 s) fun x1 s2 => zBd (m_X5_kind n v1 s2) fun x3 s4 => if x3 = (1 : Int32) then (zBd (m_X3_add n x1 s4) fun x6 s7 => zBd (m_X5_second n v1 s7) fun x8 s9 => zBd (m_X3_add n x8 s9) fun x10 s11 => zRt 0 s11) else if x3 = (2 : Int32) then (zBd (m_X3_add n x1 s4) fun x13 s14 => zBd (m_X5_second n v1 s14) fun x15 s16 => zBd (m_X3_add n x15 s16) fun x17 s18 => zRt 0 s18) else if x3 = (3 : Int32) then (zBd (m_X3_add n x1 s4) fun x20 s21 => zRt 0 s21) else if x3 = (4 : Int32) then (zBd (m_X6_of n x1 s4) fun x23 s24 => zBd (m_X6_of n v1 s24) fun x25 s26 => if x23 = x25 then (zBd (m_X3_add n x1 s26) fun x32 s33 => zRt 0 s33) else (zBd (m_X5_second n v1 s26) fun x28 s29 => zBd (m_X3_add n x28 s29) fun x30 s31 => zRt 0 s31)) else if x3 = (5 : Int32) then (zBd (m_X6_of n x1 s4) fun x35 s36 => zBd (m_X6_of n v1 s36) fun x37 s38 => if x35 = x37 then (zBd (m_X3_add n x1 s38) fun x44 s45 => zRt 0 s45) else (zBd (m_X5_second n v1 s38) fun x40 s41 => zBd (m_X3_add n x40 s41) fun x42 s43 => zRt 0 s43)) else if x3 = (6 : Int32) then (zBd (m_X3_add n x1 s4) fun x47 s48 => zRt 0 s48) else if x3 = (7 : Int32) then (zBd (m_X3_add n x1 s4) fun x50 s51 => zRt 0 s51) else if x3 = (8 : Int32) then (zBd (m_X6_of n x1 s4) fun x53 s54 => zBd (m_X6_of n v1 s54) fun x55 s56 => if x53 = x55 then (zBd (m_X3_add n x1 s56) fun x62 s63 => zRt 0 s63) else (zBd (m_X5_second n v1 s56) fun x58 s59 => zBd (m_X3_add n x58 s59) fun x60 s61 => zRt 0 s61)) else (zRt 0 s4)
def m_X3_explain_j18 (n : Nat) : Nat → Int32 → zS → Option (Int32 × zS)
  | 0, _, _ => none
  | f + 1, v4, s =>
    if (16 : Int32) ≤ v4 then (zRt 0 s) else (if (s 25 1) ≤ v4 then (zRt 0 s) else (zBd (m_X7_at n 26 16 v4 s) fun x3 s4 => zBd (m_X3_addReasons n x3 s4) fun x5 s6 => zLt (v4 + (1 : Int32)) fun x7 => m_X3_explain_j18 n f x7 s6))
def m_X3_explain (n : Nat) (v1 : Int32) (s : zS) : Option (Int32 × zS) :=
  zLt (zU s 25 1 (0 : Int32)) fun s8 => zLt (zU s8 25 2 (0 : Int32)) fun s9 => zBd (m_X3_add n v1 s9) fun x10 s11 => m_X3_explain_j18  n n (0 : Int32) s11
def m_X3_lineAt (n : Nat) (v1 : Int32) (s : zS) : Option (Int32 × zS) :=
  if v1 < 0 then (zRt (-1 : Int32) s) else (if (s 25 1) ≤ v1 then (zRt (-1 : Int32) s) else (zBd (m_X7_at n 26 16 v1 s) fun x3 s4 => zRt x3 s4))
def m_X7_takesFirst (n : Nat) (v0 : Int32) (s : zS) : Option (Int32 × zS) :=
  if v0 = 0 then (zRt (0 : Int32) s) else (zRt (1 : Int32) s)
def m_X7_takesSecond_j26 (n : Nat)  (s : zS) : Option (Int32 × zS) :=
  zRt (1 : Int32) s
def m_X7_takesSecond (n : Nat) (v0 : Int32) (s : zS) : Option (Int32 × zS) :=
  if v0 = (1 : Int32) then (m_X7_takesSecond_j26  n s) else (if v0 = (2 : Int32) then (m_X7_takesSecond_j26  n s) else (if v0 = (4 : Int32) then (m_X7_takesSecond_j26  n s) else (if v0 = (5 : Int32) then (m_X7_takesSecond_j26  n s) else (if v0 = (8 : Int32) then (m_X7_takesSecond_j26  n s) else (zRt (0 : Int32) s)))))
def m_X5_uses_j25 (n : Nat) (v1 : Int32) (v2 : Int32) (t0 : Int32) (s : zS) : Option (Int32 × zS) :=
  zBd (m_X7_takesSecond n v2 s) fun x1 s2 => if x1 = 0 then (zRt t0 s2) else (zBd (m_X5_second n v1 s2) fun x4 s5 => zBd (m_X7_bit n x4 s5) fun x6 s7 => zRt (t0 ||| x6) s7)
def m_X5_uses (n : Nat) (v1 : Int32) (s : zS) : Option (Int32 × zS) :=
  zBd (m_X5_kind n v1 s) fun x8 s9 => zBd (m_X7_takesFirst n x8 s9) fun x10 s11 => if x10 = 0 then (m_X5_uses_j25  n v1 x8 (0 : Int32) s11) else (zBd (m_X5_first n v1 s11) fun x13 s14 => zBd (m_X7_bit n x13 s14) fun x15 s16 => m_X5_uses_j25  n v1 x8 x15 s16)
def m_X4_reach (n : Nat) (v1 : Int32) (s : zS) : Option (Int32 × zS) :=
  zBd (m_X7_at n 7 16 v1 s) fun x1 s2 => zRt x1 s2
def m_X4_findReach_j37 (rec29 : Int32 → zS → Option (Int32 × zS)) (n : Nat) : Nat → Int32 → Int32 → zS → Option (Int32 × zS)
  | 0, _, _, _ => none
  | f + 1, v2, v3, s =>
    if (16 : Int32) ≤ v3 then (zLt (v2 + (1 : Int32)) fun x2 => rec29 x2 s) else (zBd (m_X4_reach n v3 s) fun x3 s4 => zBd (m_X7_has n x3 v2 s4) fun x5 s6 => if x5 = 0 then (zLt (v3 + (1 : Int32)) fun x8 => m_X4_findReach_j37 rec29 n f v2 x8 s6) else (zBd (m_X4_reach n v3 s6) fun x9 s10 => zBd (m_X4_reach n v2 s10) fun x11 s12 => zBd (m_X7_put n 7 16 v3 (x9 ||| x11) s12) fun x13 s14 => zLt (v3 + (1 : Int32)) fun x15 => m_X4_findReach_j37 rec29 n f v2 x15 s14))
def m_X4_findReach_j29 (n : Nat) : Nat → Int32 → zS → Option (Int32 × zS)
  | 0, _, _ => none
  | f + 1, v2, s =>
    if (16 : Int32) ≤ v2 then (zRt 0 s) else (m_X4_findReach_j37 (m_X4_findReach_j29 n f) n n v2 (0 : Int32) s)
def m_X4_findReach_j2 (n : Nat) : Nat → Int32 → zS → Option (Int32 × zS)
  | 0, _, _ => none
  | f + 1, v2, s =>
    if (16 : Int32) ≤ v2 then (m_X4_findReach_j29  n n (0 : Int32) s) else (zBd (m_X5_uses n v2 s) fun x18 s19 => zBd (m_X7_put n 7 16 v2 x18 s19) fun x20 s21 => zLt (v2 + (1 : Int32)) fun x22 => m_X4_findReach_j2 n f x22 s21)
def m_X4_findReach (n : Nat)  (s : zS) : Option (Int32 × zS) :=
  m_X4_findReach_j2  n n (0 : Int32) s
def m_X4_findGroups_j15 (rec2 : Int32 → zS → Option (Int32 × zS)) (n : Nat) : Nat → Int32 → Int32 → Int32 → zS → Option (Int32 × zS)
  | 0, _, _, _, _ => none
  | f + 1, v1, v2, v3, s =>
    if (16 : Int32) ≤ v3 then (zBd (m_X7_put n 8 16 v1 v2 s) fun x2 s3 => zLt (v1 + (1 : Int32)) fun x4 => rec2 x4 s3) else (zBd (m_X4_reach n v1 s) fun x5 s6 => zBd (m_X7_has n x5 v3 s6) fun x7 s8 => if x7 = 0 then (zLt (v3 + (1 : Int32)) fun x10 => m_X4_findGroups_j15 rec2 n f v1 v2 x10 s8) else (zBd (m_X4_reach n v3 s8) fun x11 s12 => zBd (m_X7_has n x11 v1 s12) fun x13 s14 => if x13 = 0 then (zLt (v3 + (1 : Int32)) fun x16 => m_X4_findGroups_j15 rec2 n f v1 v2 x16 s14) else (zBd (m_X7_bit n v3 s14) fun x17 s18 => zLt (v2 ||| x17) fun x19 => zLt (v3 + (1 : Int32)) fun x20 => m_X4_findGroups_j15 rec2 n f v1 x19 x20 s18)))
def m_X4_findGroups_j2 (n : Nat) : Nat → Int32 → zS → Option (Int32 × zS)
  | 0, _, _ => none
  | f + 1, v1, s =>
    if (16 : Int32) ≤ v1 then (zRt 0 s) else (zBd (m_X7_bit n v1 s) fun x22 s23 => m_X4_findGroups_j15 (m_X4_findGroups_j2 n f) n n v1 x22 (0 : Int32) s23)
def m_X4_findGroups (n : Nat)  (s : zS) : Option (Int32 × zS) :=
  m_X4_findGroups_j2  n n (0 : Int32) s
def m_X4_groupOf (n : Nat) (v1 : Int32) (s : zS) : Option (Int32 × zS) :=
  zBd (m_X7_at n 8 16 v1 s) fun x1 s2 => zRt x1 s2
def m_X4_isReady (n : Nat) (v1 : Int32) (s : zS) : Option (Int32 × zS) :=
  zBd (m_X7_has n (s 6 4) v1 s) fun x1 s2 => if x1 = 0 then (zBd (m_X4_reach n v1 s2) fun x4 s5 => zBd (m_X4_groupOf n v1 s5) fun x6 s7 => if ((x4 &&& (x6 ^^^ (-1 : Int32))) &&& ((s7 6 4) ^^^ (-1 : Int32))) = 0 then (zRt (1 : Int32) s7) else (zRt (0 : Int32) s7)) else (zRt (0 : Int32) s2)
def m_X4_isCircular (n : Nat) (v1 : Int32) (s : zS) : Option (Int32 × zS) :=
  zBd (m_X4_reach n v1 s) fun x1 s2 => zBd (m_X7_has n x1 v1 s2) fun x3 s4 => zGd (vp_nar .boolean x3 = x3) (zRt x3 s4)
def m_X4_place (n : Nat) (v1 : Int32) (s : zS) : Option (Int32 × zS) :=
  zBd (m_X7_put n 9 16 (s 6 3) v1 s) fun x1 s2 => zLt (zU s2 6 3 ((s2 6 3) + (1 : Int32))) fun s3 => zBd (m_X7_bit n v1 s3) fun x4 s5 => zLt (zU s5 6 4 ((s3 6 4) ||| x4)) fun s6 => zRt 0 s6
def m_X4_onlyLimit_j5 (n : Nat) : Nat → Int32 → Int32 → Int32 → zS → Option (Int32 × zS)
  | 0, _, _, _, _ => none
  | f + 1, v2, v3, v4, s =>
    if (16 : Int32) ≤ v4 then (zRt v3 s) else (zBd (m_X7_has n v2 v4 s) fun x2 s3 => if x2 = 0 then (zLt (v4 + (1 : Int32)) fun x5 => m_X4_onlyLimit_j5 n f v2 v3 x5 s3) else (zBd (m_X5_kind n v4 s3) fun x6 s7 => if x6 = (8 : Int32) then (if v3 = (-1 : Int32) then (zLt (v4 + (1 : Int32)) fun x11 => m_X4_onlyLimit_j5 n f v2 v4 x11 s7) else (zRt (-1 : Int32) s7)) else (zLt (v4 + (1 : Int32)) fun x9 => m_X4_onlyLimit_j5 n f v2 v3 x9 s7)))
def m_X4_onlyLimit (n : Nat) (v2 : Int32) (s : zS) : Option (Int32 × zS) :=
  m_X4_onlyLimit_j5  n n v2 (-1 : Int32) (0 : Int32) s
def m_X4_direct_j127 (n : Nat) (v2 : Int32) (v7 : Int32) (s : zS) : Option (Int32 × zS) :=
  if v7 = 0 then (zRt 0 s) else (zBd (m_X7_bit n v2 s) fun x2 s3 => zLt (zU s3 6 6 ((s 6 6) ||| x2)) fun s4 => zRt 0 s4)
def m_X4_direct_j107 (n : Nat) (v2 : Int32) (v6 : Int32) (t0 : Int32) (s : zS) : Option (Int32 × zS) :=
  if v6 = 0 then (m_X4_direct_j127  n v2 t0 s) else (zBd (m_X7_bit n v2 s) fun x6 s7 => zLt (zU s7 6 5 ((s 6 5) ||| x6)) fun s8 => m_X4_direct_j127  n v2 t0 s8)
def m_X4_direct_j80 (n : Nat) (v2 : Int32) (v4 : Int32) (v5 : Int32) (t0 : Int32) (s : zS) : Option (Int32 × zS) :=
  if (v4 &&& (s 6 6)) = 0 then (if (v5 &&& (s 6 5)) = 0 then (m_X4_direct_j107  n v2 t0 (0 : Int32) s) else (m_X4_direct_j107  n v2 t0 (1 : Int32) s)) else (m_X4_direct_j107  n v2 t0 (1 : Int32) s)
def m_X4_direct_j53 (n : Nat) (v2 : Int32) (v4 : Int32) (t0 : Int32) (s : zS) : Option (Int32 × zS) :=
  if (v4 &&& (s 6 5)) = 0 then (if (t0 &&& (s 6 6)) = 0 then (m_X4_direct_j80  n v2 v4 t0 (0 : Int32) s) else (m_X4_direct_j80  n v2 v4 t0 (1 : Int32) s)) else (m_X4_direct_j80  n v2 v4 t0 (1 : Int32) s)
def m_X4_direct_j35 (n : Nat) (v2 : Int32) (v3 : Int32) (t0 : Int32) (s : zS) : Option (Int32 × zS) :=
  if v3 = 0 then (m_X4_direct_j53  n v2 t0 (0 : Int32) s) else (zBd (m_X5_second n v2 s) fun x14 s15 => zBd (m_X7_bit n x14 s15) fun x16 s17 => m_X4_direct_j53  n v2 t0 x16 s17)
def m_X4_direct_j14 (n : Nat) (v2 : Int32) (t0 : Int32) (s : zS) : Option (Int32 × zS) :=
  if t0 = 0 then (zBd (m_X5_uses n v2 s) fun x19 s20 => m_X4_direct_j35  n v2 t0 x19 s20) else (zBd (m_X5_first n v2 s) fun x21 s22 => zBd (m_X7_bit n x21 s22) fun x23 s24 => m_X4_direct_j35  n v2 t0 x23 s24)
def m_X4_direct (n : Nat) (v2 : Int32) (s : zS) : Option (Int32 × zS) :=
  zBd (m_X5_kind n v2 s) fun x25 s26 => if x25 = (2 : Int32) then (m_X4_direct_j14  n v2 (1 : Int32) s26) else (m_X4_direct_j14  n v2 (0 : Int32) s26)
def m_X4_placeCircle_j137 (n : Nat) (v3 : Int32) (t0 : Int32) (s : zS) : Option (Int32 × zS) :=
  if t0 = 0 then (zRt (0 : Int32) s) else (if ((s 6 5) &&& (s 6 6)) = 0 then (zBd (m_X5_second n v3 s) fun x3 s4 => zBd (m_X7_has n (s 6 6) x3 s4) fun x5 s6 => if x5 = 0 then (zRt (0 : Int32) s6) else (zRt (1 : Int32) s6)) else (zRt (0 : Int32) s))
def m_X4_placeCircle_j57 (rec47 : Int32 → Int32 → Int32 → zS → Option (Int32 × zS)) (n : Nat) : Nat → Int32 → Int32 → Int32 → Int32 → zS → Option (Int32 × zS)
  | 0, _, _, _, _, _ => none
  | f + 1, v2, v3, v4, v5, s =>
    if (16 : Int32) ≤ v5 then (zLt (v4 + (1 : Int32)) fun x9 => rec47 v2 v3 x9 s) else (zBd (m_X7_has n (v2 &&& ((s 6 4) ^^^ (-1 : Int32))) v5 s) fun x10 s11 => if x10 = 0 then (zLt (v5 + (1 : Int32)) fun x13 => m_X4_placeCircle_j57 rec47 n f v2 v3 v4 x13 s11) else (zBd (m_X5_uses n v5 s11) fun x14 s15 => if (x14 &&& ((s15 6 4) ^^^ (-1 : Int32))) = 0 then (zBd (m_X4_place n v5 s15) fun x18 s19 => zBd (m_X4_direct n v5 s19) fun x20 s21 => zLt (v5 + (1 : Int32)) fun x22 => m_X4_placeCircle_j57 rec47 n f v2 v3 v4 x22 s21) else (zLt (v5 + (1 : Int32)) fun x17 => m_X4_placeCircle_j57 rec47 n f v2 v3 v4 x17 s15)))
def m_X4_placeCircle_j47 (n : Nat) : Nat → Int32 → Int32 → Int32 → zS → Option (Int32 × zS)
  | 0, _, _, _, _ => none
  | f + 1, v2, v3, v4, s =>
    if (16 : Int32) ≤ v4 then (if (v2 &&& ((s 6 4) ^^^ (-1 : Int32))) = 0 then (m_X4_placeCircle_j137  n v3 (1 : Int32) s) else (m_X4_placeCircle_j137  n v3 (0 : Int32) s)) else (m_X4_placeCircle_j57 (m_X4_placeCircle_j47 n f) n n v2 v3 v4 (0 : Int32) s)
def m_X4_placeCircle (n : Nat) (v2 : Int32) (s : zS) : Option (Int32 × zS) :=
  zBd (m_X4_onlyLimit n v2 s) fun x25 s26 => if x25 = (-1 : Int32) then (zRt (0 : Int32) s26) else (zBd (m_X5_first n x25 s26) fun x28 s29 => zBd (m_X7_has n v2 x28 s29) fun x30 s31 => if x30 = 0 then (zBd (m_X7_bit n x25 s31) fun x33 s34 => zLt (zU s34 6 5 x33) fun s35 => zLt (zU s35 6 6 (0 : Int32)) fun s36 => zBd (m_X4_place n x25 s36) fun x37 s38 => m_X4_placeCircle_j47  n n v2 x25 (0 : Int32) s38) else (zRt (0 : Int32) s31))
def m_X4_make_j68 (rec21 : Int32 → zS → Option (Int32 × zS)) (rec38 : Int32 → Int32 → zS → Option (Int32 × zS)) (n : Nat) (v2 : Int32) (v3 : Int32) (s : zS) : Option (Int32 × zS) :=
  zBd (m_X4_isReady n v3 s) fun x1 s2 => if x1 = 0 then (zLt (v3 + (1 : Int32)) fun x4 => rec38 v2 x4 s2) else (zBd (m_X4_groupOf n v3 s2) fun x5 s6 => zBd (m_X4_placeCircle n x5 s6) fun x7 s8 => if x7 = 0 then (zRt (0 : Int32) s8) else (zLt (v3 + (1 : Int32)) fun x10 => rec38 v2 x10 s8))
def m_X4_make_j38 (rec21 : Int32 → zS → Option (Int32 × zS)) (n : Nat) : Nat → Int32 → Int32 → zS → Option (Int32 × zS)
  | 0, _, _, _ => none
  | f + 1, v2, v3, s =>
    if (16 : Int32) ≤ v3 then (zLt (v2 + (1 : Int32)) fun x12 => rec21 x12 s) else (zBd (m_X4_isReady n v3 s) fun x13 s14 => if x13 = 0 then (m_X4_make_j68 rec21 (m_X4_make_j38 rec21 n f) n v2 v3 s14) else (zBd (m_X4_isCircular n v3 s14) fun x16 s17 => if x16 = 0 then (zBd (m_X4_place n v3 s17) fun x19 s20 => zLt (v3 + (1 : Int32)) fun x21 => m_X4_make_j38 rec21 n f v2 x21 s20) else (m_X4_make_j68 rec21 (m_X4_make_j38 rec21 n f) n v2 v3 s17)))
def m_X4_make_j21 (n : Nat) : Nat → Int32 → zS → Option (Int32 × zS)
  | 0, _, _ => none
  | f + 1, v2, s =>
    if (16 : Int32) ≤ v2 then (zRt (1 : Int32) s) else (if (s 6 4) = (65535 : Int32) then (zRt (1 : Int32) s) else (m_X4_make_j38 (m_X4_make_j21 n f) n n v2 (0 : Int32) s))
def m_X4_make (n : Nat)  (s : zS) : Option (Int32 × zS) :=
  zBd (m_X4_findReach n s) fun x24 s25 => zBd (m_X4_findGroups n s25) fun x26 s27 => zLt (zU s27 6 3 (0 : Int32)) fun s28 => zLt (zU s28 6 4 (0 : Int32)) fun s29 => m_X4_make_j21  n n (0 : Int32) s29
def m_X4_lineAt (n : Nat) (v1 : Int32) (s : zS) : Option (Int32 × zS) :=
  zBd (m_X7_at n 9 16 v1 s) fun x1 s2 => zRt x1 s2
def m_X4_placeOf_j2 (n : Nat) : Nat → Int32 → Int32 → zS → Option (Int32 × zS)
  | 0, _, _, _ => none
  | f + 1, v1, v2, s =>
    if (16 : Int32) ≤ v2 then (zRt (-1 : Int32) s) else (zBd (m_X4_lineAt n v2 s) fun x2 s3 => if x2 = v1 then (zRt v2 s3) else (zLt (v2 + (1 : Int32)) fun x5 => m_X4_placeOf_j2 n f v1 x5 s3))
def m_X4_placeOf (n : Nat) (v1 : Int32) (s : zS) : Option (Int32 × zS) :=
  m_X4_placeOf_j2  n n v1 (0 : Int32) s
def m_X5_set (n : Nat) (v1 : Int32) (v2 : Int32) (v3 : Int32) (v4 : Int32) (s : zS) : Option (Int32 × zS) :=
  zBd (m_X7_put n 2 16 v1 v2 s) fun x1 s2 => zBd (m_X7_put n 3 16 v1 v3 s2) fun x3 s4 => zBd (m_X7_put n 4 16 v1 v4 s4) fun x5 s6 => zRt 0 s6
def m_X5_given (n : Nat) (v1 : Int32) (s : zS) : Option (Int32 × zS) :=
  zBd (m_X7_at n 5 16 v1 s) fun x1 s2 => zRt x1 s2
def m_X5_give (n : Nat) (v1 : Int32) (v2 : Int32) (s : zS) : Option (Int32 × zS) :=
  zBd (m_X7_put n 5 16 v1 v2 s) fun x1 s2 => zRt 0 s2
def m_J6_bitCount_0f7a4 (n : Nat) (v0 : Int32) (s : zS) : Option (Int32 × zS) :=
  zLt (v0 - (((v0.toUInt32 >>> ((1 : Int32).toUInt32 &&& Int32.toUInt32 31)).toInt32) &&& (1431655765 : Int32))) fun x1 => zLt ((x1 &&& (858993459 : Int32)) + (((x1.toUInt32 >>> ((2 : Int32).toUInt32 &&& Int32.toUInt32 31)).toInt32) &&& (858993459 : Int32))) fun x2 => zLt ((x2 + ((x2.toUInt32 >>> ((4 : Int32).toUInt32 &&& Int32.toUInt32 31)).toInt32)) &&& (252645135 : Int32)) fun x3 => zLt (x3 + ((x3.toUInt32 >>> ((8 : Int32).toUInt32 &&& Int32.toUInt32 31)).toInt32)) fun x4 => zLt (x4 + ((x4.toUInt32 >>> ((16 : Int32).toUInt32 &&& Int32.toUInt32 31)).toInt32)) fun x5 => zRt (x5 &&& (63 : Int32)) s
def m_X6_plain (n : Nat) (v1 : Int32) (s : zS) : Option (Int32 × zS) :=
  zBd (m_X5_first n v1 s) fun x1 s2 => zBd (m_X6_of n x1 s2) fun x3 s4 => zBd (m_X5_second n v1 s4) fun x5 s6 => zBd (m_X5_kind n v1 s6) fun x7 s8 => if x7 = (1 : Int32) then (zBd (m_X6_of n x5 s8) fun x10 s11 => zRt (if (1000000000 : Int32) < (x3 + x10) then (1000000000 : Int32) else (x3 + x10)) s11) else if x7 = (2 : Int32) then (zBd (m_X6_of n x5 s8) fun x13 s14 => zRt (if (x3 - x13) < (0 : Int32) then (0 : Int32) else (x3 - x13)) s14) else if x7 = (3 : Int32) then (zBd (m_X7_thousandths n x3 x5 s8) fun x16 s17 => zRt x16 s17) else if x7 = (4 : Int32) then (zBd (m_X6_of n x5 s8) fun x19 s20 => zRt (if x19 < x3 then x19 else x3) s20) else if x7 = (5 : Int32) then (zBd (m_X6_of n x5 s8) fun x22 s23 => zRt (if x3 < x22 then x22 else x3) s23) else if x7 = (6 : Int32) then (zBd (m_X1_tax n x3 s8) fun x25 s26 => zRt x25 s26) else if x7 = (7 : Int32) then (zBd (m_X0_total n s8) fun x28 s29 => zRt (if x28 < x3 then x28 else x3) s29) else if x7 = (8 : Int32) then (zBd (m_X6_of n x5 s8) fun x31 s32 => zRt (if x31 < x3 then x31 else x3) s32) else (if v1 = (s8 21 5) then (zBd (m_X5_given n v1 s8) fun x36 s37 => zRt (x36 + (1 : Int32)) s37) else (zBd (m_X5_given n v1 s8) fun x34 s35 => zRt x34 s35))
def m_X6_suppose_j38 (n : Nat) : Nat → Int32 → Int32 → zS → Option (Int32 × zS)
  | 0, _, _, _ => none
  | f + 1, v4, v5, s =>
    if v4 ≤ v5 then (zRt 0 s) else (zBd (m_X4_lineAt n v5 s) fun x2 s3 => zBd (m_X6_plain n x2 s3) fun x4 s5 => zBd (m_X7_put n 22 16 x2 x4 s5) fun x6 s7 => zLt (v5 + (1 : Int32)) fun x8 => m_X6_suppose_j38 n f v4 x8 s7)
def m_X6_suppose (n : Nat) (v1 : Int32) (v2 : Int32) (s : zS) : Option (Int32 × zS) :=
  zBd (m_X4_lineAt n v1 s) fun x9 s10 => zBd (m_X7_put n 22 16 x9 v2 s10) fun x11 s12 => zBd (m_X4_groupOf n x9 s12) fun x13 s14 => zBd (m_J6_bitCount_0f7a4 n x13 s14) fun x15 s16 => zLt (v1 + x15) fun x17 => zLt (v1 + (1 : Int32)) fun x18 => m_X6_suppose_j38  n n x17 x18 s16
def m_X6_greatest_j28 (n : Nat) : Nat → Int32 → Int32 → Int32 → Int32 → Int32 → zS → Option (Int32 × zS)
  | 0, _, _, _, _, _, _ => none
  | f + 1, v1, v2, v3, v4, v5, s =>
    if (31 : Int32) ≤ v5 then (zRt v3 s) else (if v4 ≤ v3 then (zRt v3 s) else (zLt (v3 + (((v4 - v3) + (1 : Int32)) / (2 : Int32))) fun x3 => zBd (m_X6_suppose n v1 x3 s) fun x4 s5 => zBd (m_X5_second n v2 s5) fun x6 s7 => zBd (m_X6_of n x6 s7) fun x8 s9 => if x8 < x3 then (zLt (x3 - (1 : Int32)) fun x11 => zLt (v5 + (1 : Int32)) fun x12 => m_X6_greatest_j28 n f v1 v2 v3 x11 x12 s9) else (zLt (v5 + (1 : Int32)) fun x13 => m_X6_greatest_j28 n f v1 v2 x3 v4 x13 s9)))
def m_X6_greatest (n : Nat) (v1 : Int32) (s : zS) : Option (Int32 × zS) :=
  zBd (m_X4_lineAt n v1 s) fun x14 s15 => zBd (m_X5_first n x14 s15) fun x16 s17 => zBd (m_X6_of n x16 s17) fun x18 s19 => m_X6_greatest_j28  n n v1 x14 (0 : Int32) x18 (0 : Int32) s19
def m_X6_workOut_j51 (rec7 : Int32 → zS → Option (Int32 × zS)) (n : Nat) (v2 : Int32) (v3 : Int32) (t0 : Int32) (s : zS) : Option (Int32 × zS) :=
  if t0 = 0 then (zBd (m_X6_plain n v3 s) fun x2 s3 => zBd (m_X7_put n 22 16 v3 x2 s3) fun x4 s5 => zLt (v2 + (1 : Int32)) fun x6 => rec7 x6 s5) else (zBd (m_X6_greatest n v2 s) fun x7 s8 => zBd (m_X7_put n 22 16 v3 x7 s8) fun x9 s10 => zLt (v2 + (1 : Int32)) fun x11 => rec7 x11 s10)
def m_X6_workOut_j7 (n : Nat) : Nat → Int32 → zS → Option (Int32 × zS)
  | 0, _, _ => none
  | f + 1, v2, s =>
    if (16 : Int32) ≤ v2 then (zRt 0 s) else (zBd (m_X4_lineAt n v2 s) fun x13 s14 => zBd (m_X5_kind n x13 s14) fun x15 s16 => if x15 = (8 : Int32) then (zBd (m_X4_isCircular n x13 s16) fun x18 s19 => if x18 = 0 then (m_X6_workOut_j51 (m_X6_workOut_j7 n f) n v2 x13 (0 : Int32) s19) else (m_X6_workOut_j51 (m_X6_workOut_j7 n f) n v2 x13 (1 : Int32) s19)) else (m_X6_workOut_j51 (m_X6_workOut_j7 n f) n v2 x13 (0 : Int32) s16))
def m_X6_workOut (n : Nat) (v1 : Int32) (s : zS) : Option (Int32 × zS) :=
  zLt (zU s 21 5 v1) fun s21 => m_X6_workOut_j7  n n (0 : Int32) s21
def m_X7_isWithin (n : Nat) (v0 : Int32) (v1 : Int32) (v2 : Int32) (s : zS) : Option (Int32 × zS) :=
  if v0 < v1 then (zRt (0 : Int32) s) else (if v2 < v0 then (zRt (0 : Int32) s) else (zRt (1 : Int32) s))
def m_X7_checkPlace (n : Nat) (v0 : Int32) (s : zS) : Option ((Int32 ⊕ Nat) × zS) :=
  if v0 = 0 then (zTx 1 s) else (zRx 0 s)
def m_X7_checkLine (n : Nat) (v0 : Int32) (s : zS) : Option ((Int32 ⊕ Nat) × zS) :=
  zBd (m_X7_isWithin n v0 (0 : Int32) (15 : Int32) s) fun x1 s2 => zBx (m_X7_checkPlace n x1 s2) fun x3 s4 => zRx 0 s4
def m_X7_checkArgument (n : Nat) (v0 : Int32) (s : zS) : Option ((Int32 ⊕ Nat) × zS) :=
  if v0 = 0 then (zTx 2 s) else (zRx 0 s)
def m_X7_define_j73 (n : Nat) (v1 : Int32) (v2 : Int32) (v3 : Int32) (v4 : Int32) (t0 : Int32) (s : zS) : Option ((Int32 ⊕ Nat) × zS) :=
  zBx (m_X7_checkArgument n t0 s) fun x1 s2 => zBd (m_X5_kind n v1 s2) fun x3 s4 => zBd (m_X5_first n v1 s4) fun x5 s6 => zBd (m_X5_second n v1 s6) fun x7 s8 => zBd (m_X5_set n v1 v2 v3 v4 s8) fun x9 s10 => zBd (m_X4_make n s10) fun x11 s12 => if x11 = 0 then (zBd (m_X5_set n v1 x3 x5 x7 s12) fun x14 s15 => zBd (m_X4_make n s15) fun x16 s17 => zTx 3 s17) else (zRx 0 s12)
def m_X7_define_j46 (n : Nat) (v1 : Int32) (v2 : Int32) (v3 : Int32) (v4 : Int32) (v5 : Int32) (s : zS) : Option ((Int32 ⊕ Nat) × zS) :=
  if v5 = 0 then (m_X7_define_j73  n v1 v2 v3 v4 (0 : Int32) s) else (if v2 = (3 : Int32) then (zBd (m_X7_isWithin n v4 (0 : Int32) (1000 : Int32) s) fun x20 s21 => if x20 = 0 then (m_X7_define_j73  n v1 v2 v3 v4 (0 : Int32) s21) else (m_X7_define_j73  n v1 v2 v3 v4 (1 : Int32) s21)) else (m_X7_define_j73  n v1 v2 v3 v4 (1 : Int32) s))
def m_X7_define_j29 (n : Nat) (v1 : Int32) (v2 : Int32) (v3 : Int32) (v4 : Int32) (v5 : Int32) (s : zS) : Option ((Int32 ⊕ Nat) × zS) :=
  if v5 = 0 then (m_X7_define_j46  n v1 v2 v3 v4 v5 s) else (zBd (m_X7_takesSecond n v2 s) fun x24 s25 => if x24 = 0 then (m_X7_define_j46  n v1 v2 v3 v4 v5 s25) else (zBx (m_X7_checkLine n v4 s25) fun x27 s28 => m_X7_define_j46  n v1 v2 v3 v4 v5 s28))
def m_X7_define (n : Nat) (v1 : Int32) (v2 : Int32) (v3 : Int32) (v4 : Int32) (s : zS) : Option ((Int32 ⊕ Nat) × zS) :=
  zBx (m_X7_checkLine n v1 s) fun x29 s30 => zBd (m_X7_isWithin n v2 (0 : Int32) (8 : Int32) s30) fun x31 s32 => if x31 = 0 then (m_X7_define_j29  n v1 v2 v3 v4 x31 s32) else (zBd (m_X7_takesFirst n v2 s32) fun x34 s35 => if x34 = 0 then (m_X7_define_j29  n v1 v2 v3 v4 x31 s35) else (zBx (m_X7_checkLine n v3 s35) fun x37 s38 => m_X7_define_j29  n v1 v2 v3 v4 x31 s38))
def m_X7_answer (n : Nat) (v1 : Int32) (v2 : Int32) (s : zS) : Option ((Int32 ⊕ Nat) × zS) :=
  zBx (m_X7_checkLine n v1 s) fun x1 s2 => zBd (m_X7_isWithin n v2 (0 : Int32) (1000000 : Int32) s2) fun x3 s4 => zBx (m_X7_checkArgument n x3 s4) fun x5 s6 => zBd (m_X5_given n v1 s6) fun x7 s8 => zBd (m_X5_give n v1 v2 s8) fun x9 s10 => zRx x7 s10
def m_X7_kindOf (n : Nat) (v1 : Int32) (s : zS) : Option ((Int32 ⊕ Nat) × zS) :=
  zBx (m_X7_checkLine n v1 s) fun x1 s2 => zBd (m_X5_kind n v1 s2) fun x3 s4 => zRx x3 s4
def m_X7_value (n : Nat) (v1 : Int32) (s : zS) : Option ((Int32 ⊕ Nat) × zS) :=
  zBx (m_X7_checkLine n v1 s) fun x1 s2 => zBd (m_X6_workOut n (-1 : Int32) s2) fun x3 s4 => zBd (m_X6_of n v1 s4) fun x5 s6 => zRx x5 s6
def m_X7_checkState (n : Nat) (v0 : Int32) (s : zS) : Option ((Int32 ⊕ Nat) × zS) :=
  if v0 = 0 then (zTx 3 s) else (zRx 0 s)
def m_X7_boundFor_j32 (n : Nat) (v1 : Int32) (v2 : Int32) (t0 : Int32) (s : zS) : Option ((Int32 ⊕ Nat) × zS) :=
  zBx (m_X7_checkState n t0 s) fun x1 s2 => zBd (m_X6_workOut n (-1 : Int32) s2) fun x3 s4 => zBd (m_X4_placeOf n v1 s4) fun x5 s6 => zBd (m_X6_suppose n x5 v2 s6) fun x7 s8 => zBd (m_X5_second n v1 s8) fun x9 s10 => zBd (m_X6_of n x9 s10) fun x11 s12 => zRx x11 s12
def m_X7_boundFor (n : Nat) (v1 : Int32) (v2 : Int32) (s : zS) : Option ((Int32 ⊕ Nat) × zS) :=
  zBx (m_X7_checkLine n v1 s) fun x13 s14 => zBd (m_X7_isWithin n v2 (0 : Int32) (1000000000 : Int32) s14) fun x15 s16 => zBx (m_X7_checkArgument n x15 s16) fun x17 s18 => zBd (m_X5_kind n v1 s18) fun x19 s20 => if x19 = (8 : Int32) then (m_X7_boundFor_j32  n v1 v2 (1 : Int32) s20) else (m_X7_boundFor_j32  n v1 v2 (0 : Int32) s20)
def m_X7_dependsOn (n : Nat) (v1 : Int32) (v2 : Int32) (s : zS) : Option ((Int32 ⊕ Nat) × zS) :=
  zBx (m_X7_checkLine n v1 s) fun x1 s2 => zBx (m_X7_checkLine n v2 s2) fun x3 s4 => zBd (m_X4_reach n v1 s4) fun x5 s6 => zBd (m_X7_has n x5 v2 s6) fun x7 s8 => zGd (vp_nar .boolean x7 = x7) (zRx x7 s8)
def m_X6b_of (n : Nat) (v1 : Int32) (s : zS) : Option (Int32 × zS) :=
  zBd (m_X7_at n 24 16 v1 s) fun x1 s2 => zRt x1 s2
def m_X6b_plain (n : Nat) (v1 : Int32) (s : zS) : Option (Int32 × zS) :=
  zBd (m_X5_first n v1 s) fun x1 s2 => zBd (m_X6b_of n x1 s2) fun x3 s4 => zBd (m_X5_second n v1 s4) fun x5 s6 => zBd (m_X5_kind n v1 s6) fun x7 s8 => if x7 = (1 : Int32) then (zBd (m_X6b_of n x5 s8) fun x10 s11 => zRt (if (1000000000 : Int32) < (x3 + x10) then (1000000000 : Int32) else (x3 + x10)) s11) else if x7 = (2 : Int32) then (zBd (m_X6b_of n x5 s8) fun x13 s14 => zRt (if (x3 - x13) < (0 : Int32) then (0 : Int32) else (x3 - x13)) s14) else if x7 = (3 : Int32) then (zBd (m_X7_thousandths n x3 x5 s8) fun x16 s17 => zRt x16 s17) else if x7 = (4 : Int32) then (zBd (m_X6b_of n x5 s8) fun x19 s20 => zRt (if x19 < x3 then x19 else x3) s20) else if x7 = (5 : Int32) then (zBd (m_X6b_of n x5 s8) fun x22 s23 => zRt (if x3 < x22 then x22 else x3) s23) else if x7 = (6 : Int32) then (zBd (m_X1_tax n x3 s8) fun x25 s26 => zRt x25 s26) else if x7 = (7 : Int32) then (zBd (m_X0_total n s8) fun x28 s29 => zRt (if x28 < x3 then x28 else x3) s29) else if x7 = (8 : Int32) then (zBd (m_X6b_of n x5 s8) fun x31 s32 => zRt (if x31 < x3 then x31 else x3) s32) else (if v1 = (s8 23 5) then (zBd (m_X5_given n v1 s8) fun x36 s37 => zRt (x36 + (1 : Int32)) s37) else (zBd (m_X5_given n v1 s8) fun x34 s35 => zRt x34 s35))
def m_X6b_suppose_j38 (n : Nat) : Nat → Int32 → Int32 → zS → Option (Int32 × zS)
  | 0, _, _, _ => none
  | f + 1, v4, v5, s =>
    if v4 ≤ v5 then (zRt 0 s) else (zBd (m_X4_lineAt n v5 s) fun x2 s3 => zBd (m_X6b_plain n x2 s3) fun x4 s5 => zBd (m_X7_put n 24 16 x2 x4 s5) fun x6 s7 => zLt (v5 + (1 : Int32)) fun x8 => m_X6b_suppose_j38 n f v4 x8 s7)
def m_X6b_suppose (n : Nat) (v1 : Int32) (v2 : Int32) (s : zS) : Option (Int32 × zS) :=
  zBd (m_X4_lineAt n v1 s) fun x9 s10 => zBd (m_X7_put n 24 16 x9 v2 s10) fun x11 s12 => zBd (m_X4_groupOf n x9 s12) fun x13 s14 => zBd (m_J6_bitCount_0f7a4 n x13 s14) fun x15 s16 => zLt (v1 + x15) fun x17 => zLt (v1 + (1 : Int32)) fun x18 => m_X6b_suppose_j38  n n x17 x18 s16
def m_X6b_greatest_j28 (n : Nat) : Nat → Int32 → Int32 → Int32 → Int32 → Int32 → zS → Option (Int32 × zS)
  | 0, _, _, _, _, _, _ => none
  | f + 1, v1, v2, v3, v4, v5, s =>
    if (31 : Int32) ≤ v5 then (zRt v3 s) else (if v4 ≤ v3 then (zRt v3 s) else (zLt (v3 + (((v4 - v3) + (1 : Int32)) / (2 : Int32))) fun x3 => zBd (m_X6b_suppose n v1 x3 s) fun x4 s5 => zBd (m_X5_second n v2 s5) fun x6 s7 => zBd (m_X6b_of n x6 s7) fun x8 s9 => if x8 < x3 then (zLt (x3 - (1 : Int32)) fun x11 => zLt (v5 + (1 : Int32)) fun x12 => m_X6b_greatest_j28 n f v1 v2 v3 x11 x12 s9) else (zLt (v5 + (1 : Int32)) fun x13 => m_X6b_greatest_j28 n f v1 v2 x3 v4 x13 s9)))
def m_X6b_greatest (n : Nat) (v1 : Int32) (s : zS) : Option (Int32 × zS) :=
  zBd (m_X4_lineAt n v1 s) fun x14 s15 => zBd (m_X5_first n x14 s15) fun x16 s17 => zBd (m_X6b_of n x16 s17) fun x18 s19 => m_X6b_greatest_j28  n n v1 x14 (0 : Int32) x18 (0 : Int32) s19
def m_X6b_workOut_j51 (rec7 : Int32 → zS → Option (Int32 × zS)) (n : Nat) (v2 : Int32) (v3 : Int32) (t0 : Int32) (s : zS) : Option (Int32 × zS) :=
  if t0 = 0 then (zBd (m_X6b_plain n v3 s) fun x2 s3 => zBd (m_X7_put n 24 16 v3 x2 s3) fun x4 s5 => zLt (v2 + (1 : Int32)) fun x6 => rec7 x6 s5) else (zBd (m_X6b_greatest n v2 s) fun x7 s8 => zBd (m_X7_put n 24 16 v3 x7 s8) fun x9 s10 => zLt (v2 + (1 : Int32)) fun x11 => rec7 x11 s10)
def m_X6b_workOut_j7 (n : Nat) : Nat → Int32 → zS → Option (Int32 × zS)
  | 0, _, _ => none
  | f + 1, v2, s =>
    if (16 : Int32) ≤ v2 then (zRt 0 s) else (zBd (m_X4_lineAt n v2 s) fun x13 s14 => zBd (m_X5_kind n x13 s14) fun x15 s16 => if x15 = (8 : Int32) then (zBd (m_X4_isCircular n x13 s16) fun x18 s19 => if x18 = 0 then (m_X6b_workOut_j51 (m_X6b_workOut_j7 n f) n v2 x13 (0 : Int32) s19) else (m_X6b_workOut_j51 (m_X6b_workOut_j7 n f) n v2 x13 (1 : Int32) s19)) else (m_X6b_workOut_j51 (m_X6b_workOut_j7 n f) n v2 x13 (0 : Int32) s16))
def m_X6b_workOut (n : Nat) (v1 : Int32) (s : zS) : Option (Int32 × zS) :=
  zLt (zU s 23 5 v1) fun s21 => m_X6b_workOut_j7  n n (0 : Int32) s21
def m_X7_influence_j37 (n : Nat) : Nat → Int32 → Int32 → zS → Option ((Int32 ⊕ Nat) × zS)
  | 0, _, _, _ => none
  | f + 1, v2, v3, s =>
    if (16 : Int32) ≤ v3 then (zRx v2 s) else (zBd (m_X6_of n v3 s) fun x2 s3 => zBd (m_X6b_of n v3 s3) fun x4 s5 => if x2 = x4 then (zLt (v3 + (1 : Int32)) fun x7 => m_X7_influence_j37 n f v2 x7 s5) else (zLt (v2 + (1 : Int32)) fun x8 => zLt (v3 + (1 : Int32)) fun x9 => m_X7_influence_j37 n f x8 x9 s5))
def m_X7_influence (n : Nat) (v1 : Int32) (s : zS) : Option ((Int32 ⊕ Nat) × zS) :=
  zBx (m_X7_checkLine n v1 s) fun x10 s11 => zBd (m_X5_kind n v1 s11) fun x12 s13 => if x12 = 0 then (zBd (m_X6_workOut n (-1 : Int32) s13) fun x15 s16 => zBd (m_X6b_workOut n v1 s16) fun x17 s18 => m_X7_influence_j37  n n (0 : Int32) (0 : Int32) s18) else (zRx (0 : Int32) s13)
def m_X7_why_j13 (n : Nat) (v1 : Int32) (v2 : Int32) (t0 : Int32) (s : zS) : Option ((Int32 ⊕ Nat) × zS) :=
  zBx (m_X7_checkPlace n t0 s) fun x1 s2 => zBd (m_X6_workOut n (-1 : Int32) s2) fun x3 s4 => zBd (m_X3_explain n v1 s4) fun x5 s6 => zBd (m_X3_lineAt n v2 s6) fun x7 s8 => zRx x7 s8
def m_X7_why (n : Nat) (v1 : Int32) (v2 : Int32) (s : zS) : Option ((Int32 ⊕ Nat) × zS) :=
  zBx (m_X7_checkLine n v1 s) fun x9 s10 => if v2 < 0 then (m_X7_why_j13  n v1 v2 (0 : Int32) s10) else (m_X7_why_j13  n v1 v2 (1 : Int32) s10)
def m_X7_bracket_j26 (n : Nat) (v1 : Int32) (v2 : Int32) (t0 : Int32) (s : zS) : Option ((Int32 ⊕ Nat) × zS) :=
  zBx (m_X7_checkArgument n t0 s) fun x1 s2 => zBd (m_X1_hasRoomFor n v1 s2) fun x3 s4 => zBx (m_X7_checkState n x3 s4) fun x5 s6 => zBd (m_X1_set n v1 v2 s6) fun x7 s8 => zBd (m_X1_size n s8) fun x9 s10 => zRx x9 s10
def m_X7_bracket (n : Nat) (v1 : Int32) (v2 : Int32) (s : zS) : Option ((Int32 ⊕ Nat) × zS) :=
  zBd (m_X7_isWithin n v1 (0 : Int32) (1000000 : Int32) s) fun x11 s12 => if x11 = 0 then (m_X7_bracket_j26  n v1 v2 (0 : Int32) s12) else (zBd (m_X7_isWithin n v2 (0 : Int32) (1000 : Int32) s12) fun x14 s15 => if x14 = 0 then (m_X7_bracket_j26  n v1 v2 (0 : Int32) s15) else (m_X7_bracket_j26  n v1 v2 (1 : Int32) s15))
def m_X7_dropBrackets (n : Nat)  (s : zS) : Option (Int32 × zS) :=
  zBd (m_X1_size n s) fun x1 s2 => zBd (m_X1_clear n s2) fun x3 s4 => zRt x1 s4
def m_X7_taxOn (n : Nat) (v1 : Int32) (s : zS) : Option ((Int32 ⊕ Nat) × zS) :=
  zBd (m_X7_isWithin n v1 (0 : Int32) (1000000000 : Int32) s) fun x1 s2 => zBx (m_X7_checkArgument n x1 s2) fun x3 s4 => zBd (m_X1_tax n v1 s4) fun x5 s6 => zRx x5 s6
def m_X7_carry_j55 (n : Nat) (v1 : Int32) (v2 : Int32) (t0 : Int32) (s : zS) : Option ((Int32 ⊕ Nat) × zS) :=
  zBx (m_X7_checkState n t0 s) fun x1 s2 => zBd (m_X0_add n v1 v2 s2) fun x3 s4 => zBd (m_X0_total n s4) fun x5 s6 => zRx x5 s6
def m_X7_carry_j35 (n : Nat) (v1 : Int32) (v2 : Int32) (t0 : Int32) (s : zS) : Option ((Int32 ⊕ Nat) × zS) :=
  zBx (m_X7_checkArgument n t0 s) fun x7 s8 => zBd (m_X0_size n s8) fun x9 s10 => if (8 : Int32) ≤ x9 then (m_X7_carry_j55  n v1 v2 (0 : Int32) s10) else (m_X7_carry_j55  n v1 v2 (1 : Int32) s10)
def m_X7_carry (n : Nat) (v1 : Int32) (v2 : Int32) (s : zS) : Option ((Int32 ⊕ Nat) × zS) :=
  zBd (m_X0_now n s) fun x12 s13 => zBd (m_X7_isWithin n v1 (1 : Int32) (1000000 : Int32) s13) fun x14 s15 => if x14 = 0 then (m_X7_carry_j35  n v1 v2 (0 : Int32) s15) else (zBd (m_X7_isWithin n v2 x12 (x12 + (20 : Int32)) s15) fun x17 s18 => if x17 = 0 then (m_X7_carry_j35  n v1 v2 (0 : Int32) s18) else (m_X7_carry_j35  n v1 v2 (1 : Int32) s18))
def m_X7_carried (n : Nat)  (s : zS) : Option (Int32 × zS) :=
  zBd (m_X0_total n s) fun x1 s2 => zRt x1 s2
def m_X7_carriedAt (n : Nat) (v1 : Int32) (s : zS) : Option ((Int32 ⊕ Nat) × zS) :=
  if v1 < 0 then (zBx (m_X7_checkPlace n (0 : Int32) s) fun x2 s3 => zBd (m_X0_leftAt n v1 s3) fun x4 s5 => zRx x4 s5) else (zBd (m_X0_size n s) fun x6 s7 => if x6 ≤ v1 then (zBx (m_X7_checkPlace n (0 : Int32) s7) fun x9 s10 => zBd (m_X0_leftAt n v1 s10) fun x11 s12 => zRx x11 s12) else (zBx (m_X7_checkPlace n (1 : Int32) s7) fun x13 s14 => zBd (m_X0_leftAt n v1 s14) fun x15 s16 => zRx x15 s16))
def m_X7_year (n : Nat)  (s : zS) : Option (Int32 × zS) :=
  zBd (m_X0_now n s) fun x1 s2 => zRt x1 s2
def m_X7_closeYear_j12 (n : Nat) : Nat → Int32 → Int32 → zS → Option (Int32 × zS)
  | 0, _, _, _ => none
  | f + 1, v1, v2, s =>
    if (16 : Int32) ≤ v2 then (zBd (m_X0_endYear n s) fun x2 s3 => zRt v1 s3) else (zBd (m_X5_kind n v2 s) fun x4 s5 => if x4 = (7 : Int32) then (zBd (m_X6_of n v2 s5) fun x8 s9 => zBd (m_X0_take n x8 s9) fun x10 s11 => zLt (v1 + x10) fun x12 => zLt (v2 + (1 : Int32)) fun x13 => m_X7_closeYear_j12 n f x12 x13 s11) else (zLt (v2 + (1 : Int32)) fun x7 => m_X7_closeYear_j12 n f v1 x7 s5))
def m_X7_closeYear (n : Nat)  (s : zS) : Option (Int32 × zS) :=
  zBd (m_X6_workOut n (-1 : Int32) s) fun x14 s15 => m_X7_closeYear_j12  n n (0 : Int32) (0 : Int32) s15
def m_X7_addCredit_j45 (n : Nat) (v1 : Int32) (v2 : Int32) (t0 : Int32) (s : zS) : Option ((Int32 ⊕ Nat) × zS) :=
  zBx (m_X7_checkState n t0 s) fun x1 s2 => zBd (m_X2_add n v1 v2 s2) fun x3 s4 => zBd (m_X2_size n s4) fun x5 s6 => zRx (x5 - (1 : Int32)) s6
def m_X7_addCredit_j26 (n : Nat) (v1 : Int32) (v2 : Int32) (t0 : Int32) (s : zS) : Option ((Int32 ⊕ Nat) × zS) :=
  zBx (m_X7_checkArgument n t0 s) fun x7 s8 => zBd (m_X2_size n s8) fun x9 s10 => if (5 : Int32) ≤ x9 then (m_X7_addCredit_j45  n v1 v2 (0 : Int32) s10) else (m_X7_addCredit_j45  n v1 v2 (1 : Int32) s10)
def m_X7_addCredit (n : Nat) (v1 : Int32) (v2 : Int32) (s : zS) : Option ((Int32 ⊕ Nat) × zS) :=
  zBd (m_X7_isWithin n v1 (1 : Int32) (1000000 : Int32) s) fun x12 s13 => if x12 = 0 then (m_X7_addCredit_j26  n v1 v2 (0 : Int32) s13) else (zBd (m_X7_isWithin n v2 (0 : Int32) (1000 : Int32) s13) fun x15 s16 => if x15 = 0 then (m_X7_addCredit_j26  n v1 v2 (0 : Int32) s16) else (m_X7_addCredit_j26  n v1 v2 (1 : Int32) s16))
def m_X7_dropCredit (n : Nat)  (s : zS) : Option ((Int32 ⊕ Nat) × zS) :=
  zBd (m_X2_size n s) fun x1 s2 => if x1 ≤ 0 then (zBx (m_X7_checkState n (0 : Int32) s2) fun x4 s5 => zBd (m_X2_dropLast n s5) fun x6 s7 => zBd (m_X2_size n s7) fun x8 s9 => zRx x8 s9) else (zBx (m_X7_checkState n (1 : Int32) s2) fun x10 s11 => zBd (m_X2_dropLast n s11) fun x12 s13 => zBd (m_X2_size n s13) fun x14 s15 => zRx x14 s15)
def m_X7_creditAt_j24 (n : Nat) (v1 : Int32) (v2 : Int32) (t0 : Int32) (s : zS) : Option ((Int32 ⊕ Nat) × zS) :=
  zBx (m_X7_checkPlace n t0 s) fun x1 s2 => zBd (m_X6_workOut n (-1 : Int32) s2) fun x3 s4 => zBd (m_X6_of n v1 s4) fun x5 s6 => zBd (m_X2_findBest n x5 s6) fun x7 s8 => zBd (m_X2_bestAt n v2 s8) fun x9 s10 => zRx x9 s10
def m_X7_creditAt (n : Nat) (v1 : Int32) (v2 : Int32) (s : zS) : Option ((Int32 ⊕ Nat) × zS) :=
  zBx (m_X7_checkLine n v1 s) fun x11 s12 => if v2 < 0 then (m_X7_creditAt_j24  n v1 v2 (0 : Int32) s12) else (zBd (m_X2_size n s12) fun x14 s15 => if x14 ≤ v2 then (m_X7_creditAt_j24  n v1 v2 (0 : Int32) s15) else (m_X7_creditAt_j24  n v1 v2 (1 : Int32) s15))
def m_X7_afterCredits (n : Nat) (v1 : Int32) (s : zS) : Option ((Int32 ⊕ Nat) × zS) :=
  zBx (m_X7_checkLine n v1 s) fun x1 s2 => zBd (m_X6_workOut n (-1 : Int32) s2) fun x3 s4 => zBd (m_X6_of n v1 s4) fun x5 s6 => zBd (m_X2_total n s6) fun x7 s8 => zRx (x5 - (if x7 < x5 then x7 else x5)) s8
def m_X7_bestSum (n : Nat) (v1 : Int32) (s : zS) : Option ((Int32 ⊕ Nat) × zS) :=
  zBx (m_X7_checkLine n v1 s) fun x1 s2 => zBd (m_X6_workOut n (-1 : Int32) s2) fun x3 s4 => zBd (m_X6_of n v1 s4) fun x5 s6 => zBd (m_X2_findBest n x5 s6) fun x7 s8 => zRx x7 s8
