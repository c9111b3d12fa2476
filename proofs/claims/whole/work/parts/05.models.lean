/-! the two layouts: the cells of an engine and of a reference, with their references -/
def zLX : List zK := [.inr (7, [3, 8, 12, 15, 18, 23, 25, 27]), .inr (5, [4, 5, 6, 7]), .inl (0, 16), .inl (0, 16), .inl (0, 16), .inl (0, 16), .inr (4, [9, 10, 11, 0, 0, 0, 0]), .inl (0, 16), .inl (0, 16), .inl (0, 16), .inr (1, [13, 14, 0]), .inl (0, 5), .inl (0, 5), .inr (0, [16, 17, 0, 0]), .inl (0, 8), .inl (0, 8), .inr (2, [19, 20, 21, 22, 0]), .inl (0, 5), .inl (0, 5), .inl (0, 5), .inl (0, 5), .inr (6, [3, 8, 12, 15, 24, 0]), .inl (0, 16), .inr (6, [3, 8, 12, 15, 26, 0]), .inl (0, 16), .inr (3, [28, 0, 0]), .inl (0, 16)]
theorem kX0 : zLX[0]? = some (.inr (7, [3, 8, 12, 15, 18, 23, 25, 27])) := rfl
theorem kX1 : zLX[1]? = some (.inr (5, [4, 5, 6, 7])) := rfl
theorem kX2 : zLX[2]? = some (.inl (0, 16)) := rfl
theorem kX3 : zLX[3]? = some (.inl (0, 16)) := rfl
theorem kX4 : zLX[4]? = some (.inl (0, 16)) := rfl
theorem kX5 : zLX[5]? = some (.inl (0, 16)) := rfl
theorem kX6 : zLX[6]? = some (.inr (4, [9, 10, 11, 0, 0, 0, 0])) := rfl
theorem kX7 : zLX[7]? = some (.inl (0, 16)) := rfl
theorem kX8 : zLX[8]? = some (.inl (0, 16)) := rfl
theorem kX9 : zLX[9]? = some (.inl (0, 16)) := rfl
theorem kX10 : zLX[10]? = some (.inr (1, [13, 14, 0])) := rfl
theorem kX11 : zLX[11]? = some (.inl (0, 5)) := rfl
theorem kX12 : zLX[12]? = some (.inl (0, 5)) := rfl
theorem kX13 : zLX[13]? = some (.inr (0, [16, 17, 0, 0])) := rfl
theorem kX14 : zLX[14]? = some (.inl (0, 8)) := rfl
theorem kX15 : zLX[15]? = some (.inl (0, 8)) := rfl
theorem kX16 : zLX[16]? = some (.inr (2, [19, 20, 21, 22, 0])) := rfl
theorem kX17 : zLX[17]? = some (.inl (0, 5)) := rfl
theorem kX18 : zLX[18]? = some (.inl (0, 5)) := rfl
theorem kX19 : zLX[19]? = some (.inl (0, 5)) := rfl
theorem kX20 : zLX[20]? = some (.inl (0, 5)) := rfl
theorem kX21 : zLX[21]? = some (.inr (6, [3, 8, 12, 15, 24, 0])) := rfl
theorem kX22 : zLX[22]? = some (.inl (0, 16)) := rfl
theorem kX23 : zLX[23]? = some (.inr (6, [3, 8, 12, 15, 26, 0])) := rfl
theorem kX24 : zLX[24]? = some (.inl (0, 16)) := rfl
theorem kX25 : zLX[25]? = some (.inr (3, [28, 0, 0])) := rfl
theorem kX26 : zLX[26]? = some (.inl (0, 16)) := rfl
def zLM : List zK := [.inr (8, [3, 4, 5, 6, 0, 7, 8, 0, 0, 9, 10, 0, 11, 12, 13, 14, 15, 16, 17, 18, 19, 20, 0, 0]), .inl (0, 16), .inl (0, 16), .inl (0, 16), .inl (0, 16), .inl (0, 5), .inl (0, 5), .inl (0, 8), .inl (0, 8), .inl (0, 5), .inl (0, 5), .inl (0, 32), .inl (1, 32), .inl (0, 16), .inl (0, 16), .inl (0, 16), .inl (0, 16), .inl (0, 5), .inl (0, 5)]
theorem kM0 : zLM[0]? = some (.inr (8, [3, 4, 5, 6, 0, 7, 8, 0, 0, 9, 10, 0, 11, 12, 13, 14, 15, 16, 17, 18, 19, 20, 0, 0])) := rfl
theorem kM1 : zLM[1]? = some (.inl (0, 16)) := rfl
theorem kM2 : zLM[2]? = some (.inl (0, 16)) := rfl
theorem kM3 : zLM[3]? = some (.inl (0, 16)) := rfl
theorem kM4 : zLM[4]? = some (.inl (0, 16)) := rfl
theorem kM5 : zLM[5]? = some (.inl (0, 5)) := rfl
theorem kM6 : zLM[6]? = some (.inl (0, 5)) := rfl
theorem kM7 : zLM[7]? = some (.inl (0, 8)) := rfl
theorem kM8 : zLM[8]? = some (.inl (0, 8)) := rfl
theorem kM9 : zLM[9]? = some (.inl (0, 5)) := rfl
theorem kM10 : zLM[10]? = some (.inl (0, 5)) := rfl
theorem kM11 : zLM[11]? = some (.inl (0, 32)) := rfl
theorem kM12 : zLM[12]? = some (.inl (1, 32)) := rfl
theorem kM13 : zLM[13]? = some (.inl (0, 16)) := rfl
theorem kM14 : zLM[14]? = some (.inl (0, 16)) := rfl
theorem kM15 : zLM[15]? = some (.inl (0, 16)) := rfl
theorem kM16 : zLM[16]? = some (.inl (0, 16)) := rfl
theorem kM17 : zLM[17]? = some (.inl (0, 5)) := rfl
theorem kM18 : zLM[18]? = some (.inl (0, 5)) := rfl
theorem vc0 : vwCl[0]? = some (RX0, TX0, 4) := rfl
theorem vc1 : vwCl[1]? = some (RX1, TX1, 3) := rfl
theorem vc2 : vwCl[2]? = some (RX2, TX2, 5) := rfl
theorem vc3 : vwCl[3]? = some (RX3, TX3, 3) := rfl
theorem vc4 : vwCl[4]? = some (RX4, TX4, 7) := rfl
theorem vc5 : vwCl[5]? = some (RX5, TX5, 4) := rfl
theorem vc6 : vwCl[6]? = some (RX6, TX6, 6) := rfl
theorem vc7 : vwCl[7]? = some (RX7, TX7, 8) := rfl
theorem vc8 : vwCl[8]? = some (RX8, TX8, 24) := rfl
/-! the models of the methods, written by program out of the bytecode -/
def m_X0_now (n : Nat)  (s : zS) : Option (Int32 × zS) :=
  zRt (s 13 3) s
def m_X0_size (n : Nat)  (s : zS) : Option (Int32 × zS) :=
  zRt (s 13 2) s
def m_X7_at (n : Nat) (k N : Nat) (v1 : Int32) (s : zS) : Option (Int32 × zS) :=
  if v1 < 0 then (zRt (0 : Int32) s) else (if (Int32.ofNat N) ≤ v1 then (zRt (0 : Int32) s) else (zRd (s k) v1 N fun x3 => zRt x3 s))
def m_X0_leftAt (n : Nat) (v1 : Int32) (s : zS) : Option (Int32 × zS) :=
  zBd (m_X7_at n 14 8 v1 s) fun x1 s2 => zRt x1 s2
def m_X0_total_j4 (n : Nat) : Nat → Int32 → Int32 → zS → Option (Int32 × zS)
  | 0, _, _, _ => none
  | f + 1, v1, v2, s =>
    if (s 13 2) ≤ v2 then (zRt v1 s) else (zBd (m_X0_leftAt n v2 s) fun x2 s3 => zLt (v1 + x2) fun x4 => zLt (v2 + (1 : Int32)) fun x5 => m_X0_total_j4 n f x4 x5 s3)
def m_X0_total (n : Nat)  (s : zS) : Option (Int32 × zS) :=
  m_X0_total_j4  n n (0 : Int32) (0 : Int32) s
def m_X7_put (n : Nat) (k N : Nat) (v1 : Int32) (v2 : Int32) (s : zS) : Option (Int32 × zS) :=
  if v1 < 0 then (zRt 0 s) else (if (Int32.ofNat N) ≤ v1 then (zRt 0 s) else (zWr s k v1 N v2 fun s3 => zRt 0 s3))
def m_X0_move (n : Nat) (v1 : Int32) (v2 : Int32) (s : zS) : Option (Int32 × zS) :=
  zBd (m_X7_at n 14 8 v1 s) fun x1 s2 => zBd (m_X7_put n 14 8 v2 x1 s2) fun x3 s4 => zBd (m_X7_at n 15 8 v1 s4) fun x5 s6 => zBd (m_X7_put n 15 8 v2 x5 s6) fun x7 s8 => zRt 0 s8
def m_X0_add_j37 (n : Nat) (v1 : Int32) (v2 : Int32) (v3 : Int32) (s : zS) : Option (Int32 × zS) :=
  zBd (m_X7_put n 14 8 v3 v1 s) fun x1 s2 => zBd (m_X7_put n 15 8 v3 v2 s2) fun x3 s4 => zLt (zU s4 13 2 ((s4 13 2) + (1 : Int32))) fun s5 => zRt 0 s5
def m_X0_add_j5 (n : Nat) : Nat → Int32 → Int32 → Int32 → zS → Option (Int32 × zS)
  | 0, _, _, _, _ => none
  | f + 1, v1, v2, v3, s =>
    if v3 ≤ 0 then (m_X0_add_j37  n v1 v2 v3 s) else (zBd (m_X7_at n 15 8 (v3 - (1 : Int32)) s) fun x7 s8 => if x7 ≤ v2 then (m_X0_add_j37  n v1 v2 v3 s8) else (zBd (m_X0_move n (v3 - (1 : Int32)) v3 s8) fun x10 s11 => zLt (v3 + (-1 : Int32)) fun x12 => m_X0_add_j5 n f v1 v2 x12 s11))
def m_X0_add (n : Nat) (v1 : Int32) (v2 : Int32) (s : zS) : Option (Int32 × zS) :=
  zLt (s 13 2) fun x13 => m_X0_add_j5  n n v1 v2 x13 s
def m_X0_take_j4 (n : Nat) : Nat → Int32 → Int32 → Int32 → zS → Option (Int32 × zS)
  | 0, _, _, _, _ => none
  | f + 1, v1, v2, v3, s =>
    if (s 13 2) ≤ v3 then (zRt (v1 - v2) s) else (zBd (m_X0_leftAt n v3 s) fun x2 s3 => zLt (if x2 < v2 then x2 else v2) fun x4 => zBd (m_X0_leftAt n v3 s3) fun x5 s6 => zBd (m_X7_put n 14 8 v3 (x5 - x4) s6) fun x7 s8 => zLt (v2 - x4) fun x9 => zLt (v3 + (1 : Int32)) fun x10 => m_X0_take_j4 n f v1 x9 x10 s8)
def m_X0_take (n : Nat) (v1 : Int32) (s : zS) : Option (Int32 × zS) :=
  m_X0_take_j4  n n v1 v1 (0 : Int32) s
def m_X0_endYear_j4 (n : Nat) : Nat → Int32 → Int32 → zS → Option (Int32 × zS)
  | 0, _, _, _ => none
  | f + 1, v1, v2, s =>
    if (s 13 2) ≤ v2 then (zLt (zU s 13 2 v1) fun s2 => zLt (zU s2 13 3 ((s2 13 3) + (1 : Int32))) fun s3 => zRt 0 s3) else (zBd (m_X0_leftAt n v2 s) fun x4 s5 => if x4 ≤ 0 then (zLt (v2 + (1 : Int32)) fun x7 => m_X0_endYear_j4 n f v1 x7 s5) else (zBd (m_X7_at n 15 8 v2 s5) fun x8 s9 => if x8 ≤ (s9 13 3) then (zLt (v2 + (1 : Int32)) fun x11 => m_X0_endYear_j4 n f v1 x11 s9) else (zBd (m_X0_move n v2 v1 s9) fun x12 s13 => zLt (v1 + (1 : Int32)) fun x14 => zLt (v2 + (1 : Int32)) fun x15 => m_X0_endYear_j4 n f x14 x15 s13)))
def m_X0_endYear (n : Nat)  (s : zS) : Option (Int32 × zS) :=
  m_X0_endYear_j4  n n (0 : Int32) (0 : Int32) s
def m_X1_size (n : Nat)  (s : zS) : Option (Int32 × zS) :=
  zRt (s 10 2) s
def m_X1_clear (n : Nat)  (s : zS) : Option (Int32 × zS) :=
  zLt (zU s 10 2 (0 : Int32)) fun s1 => zRt 0 s1
def m_X1_placeFor_j2 (n : Nat) : Nat → Int32 → Int32 → zS → Option (Int32 × zS)
  | 0, _, _, _ => none
  | f + 1, v1, v2, s =>
    if (s 10 2) ≤ v2 then (zRt v2 s) else (zBd (m_X7_at n 11 5 v2 s) fun x2 s3 => if v1 ≤ x2 then (zRt v2 s3) else (zLt (v2 + (1 : Int32)) fun x5 => m_X1_placeFor_j2 n f v1 x5 s3))
def m_X1_placeFor (n : Nat) (v1 : Int32) (s : zS) : Option (Int32 × zS) :=
  m_X1_placeFor_j2  n n v1 (0 : Int32) s
def m_X1_isAt (n : Nat) (v1 : Int32) (v2 : Int32) (s : zS) : Option (Int32 × zS) :=
  if (s 10 2) ≤ v1 then (zRt (0 : Int32) s) else (zBd (m_X7_at n 11 5 v1 s) fun x2 s3 => if x2 = v2 then (zRt (1 : Int32) s3) else (zRt (0 : Int32) s3))
def m_X1_hasRoomFor (n : Nat) (v1 : Int32) (s : zS) : Option (Int32 × zS) :=
  if (s 10 2) < (5 : Int32) then (zRt (1 : Int32) s) else (zBd (m_X1_placeFor n v1 s) fun x2 s3 => zBd (m_X1_isAt n x2 v1 s3) fun x4 s5 => if x4 = 0 then (zRt (0 : Int32) s5) else (zRt (1 : Int32) s5))
def m_X1_set_j23 (n : Nat) : Nat → Int32 → Int32 → Int32 → Int32 → zS → Option (Int32 × zS)
  | 0, _, _, _, _, _ => none
  | f + 1, v1, v2, v3, v4, s =>
    if v4 < v3 then (zBd (m_X7_put n 11 5 v3 v1 s) fun x2 s3 => zLt (zU s3 10 2 ((s3 10 2) + (1 : Int32))) fun s4 => zBd (m_X7_put n 12 5 v3 v2 s4) fun x5 s6 => zRt 0 s6) else (zBd (m_X7_at n 11 5 v4 s) fun x7 s8 => zBd (m_X7_put n 11 5 (v4 + (1 : Int32)) x7 s8) fun x9 s10 => zBd (m_X7_at n 12 5 v4 s10) fun x11 s12 => zBd (m_X7_put n 12 5 (v4 + (1 : Int32)) x11 s12) fun x13 s14 => zLt (v4 + (-1 : Int32)) fun x15 => m_X1_set_j23 n f v1 v2 v3 x15 s14)
def m_X1_set (n : Nat) (v1 : Int32) (v2 : Int32) (s : zS) : Option (Int32 × zS) :=
  zBd (m_X1_placeFor n v1 s) fun x16 s17 => zBd (m_X1_isAt n x16 v1 s17) fun x18 s19 => if x18 = 0 then (zLt ((s19 10 2) - (1 : Int32)) fun x23 => m_X1_set_j23  n n v1 v2 x16 x23 s19) else (zBd (m_X7_put n 12 5 x16 v2 s19) fun x21 s22 => zRt 0 s22)
def m_X7_thousandths (n : Nat) (v0 : Int32) (v1 : Int32) (s : zS) : Option (Int32 × zS) :=
  zRt (Int64.toInt32 (((Int32.toInt64 v0) * (Int32.toInt64 v1)) / (1000 : Int64))) s
def m_X1_tax_j40 (rec4 : Int32 → Int32 → Int32 → zS → Option (Int32 × zS)) (n : Nat) (v1 : Int32) (v2 : Int32) (v3 : Int32) (t0 : Int32) (s : zS) : Option (Int32 × zS) :=
  zBd (m_X7_at n 11 5 v3 s) fun x1 s2 => zLt (if (t0 - x1) < (0 : Int32) then (0 : Int32) else (t0 - x1)) fun x3 => zBd (m_X7_at n 12 5 v3 s2) fun x4 s5 => zBd (m_X7_thousandths n x3 x4 s5) fun x6 s7 => zLt (v2 + x6) fun x8 => zLt (v3 + (1 : Int32)) fun x9 => rec4 v1 x8 x9 s7
def m_X1_tax_j4 (n : Nat) : Nat → Int32 → Int32 → Int32 → zS → Option (Int32 × zS)
  | 0, _, _, _, _ => none
  | f + 1, v1, v2, v3, s =>
    if (s 10 2) ≤ v3 then (zRt v2 s) else (if (s 10 2) ≤ (v3 + (1 : Int32)) then (m_X1_tax_j40 (m_X1_tax_j4 n f) n v1 v2 v3 v1 s) else (zBd (m_X7_at n 11 5 (v3 + (1 : Int32)) s) fun x12 s13 => m_X1_tax_j40 (m_X1_tax_j4 n f) n v1 v2 v3 (if x12 < v1 then x12 else v1) s13))
def m_X1_tax (n : Nat) (v1 : Int32) (s : zS) : Option (Int32 × zS) :=
  m_X1_tax_j4  n n v1 (0 : Int32) (0 : Int32) s
def m_X2_size (n : Nat)  (s : zS) : Option (Int32 × zS) :=
  zRt (s 16 4) s
def m_X2_add (n : Nat) (v1 : Int32) (v2 : Int32) (s : zS) : Option (Int32 × zS) :=
  zBd (m_X7_put n 17 5 (s 16 4) v1 s) fun x1 s2 => zBd (m_X7_put n 18 5 (s2 16 4) v2 s2) fun x3 s4 => zLt (zU s4 16 4 ((s4 16 4) + (1 : Int32))) fun s5 => zRt 0 s5
def m_X2_dropLast (n : Nat)  (s : zS) : Option (Int32 × zS) :=
  zLt (zU s 16 4 ((s 16 4) - (1 : Int32))) fun s1 => zRt 0 s1
def m_X2_total_j4 (n : Nat) : Nat → Int32 → Int32 → zS → Option (Int32 × zS)
  | 0, _, _, _ => none
  | f + 1, v1, v2, s =>
    if (s 16 4) ≤ v2 then (zRt v1 s) else (zBd (m_X7_at n 17 5 v2 s) fun x2 s3 => zLt (v1 + x2) fun x4 => zLt (v2 + (1 : Int32)) fun x5 => m_X2_total_j4 n f x4 x5 s3)
def m_X2_total (n : Nat)  (s : zS) : Option (Int32 × zS) :=
  m_X2_total_j4  n n (0 : Int32) (0 : Int32) s
def m_X2_bestAt (n : Nat) (v1 : Int32) (s : zS) : Option (Int32 × zS) :=
  zBd (m_X7_at n 20 5 v1 s) fun x1 s2 => zRt x1 s2
def m_X2_sumInOrder_j7 (n : Nat) : Nat → Int32 → Int32 → Int32 → zS → Option (Int32 × zS)
  | 0, _, _, _, _ => none
  | f + 1, v2, v3, v4, s =>
    if (s 16 4) ≤ v4 then (zRt v3 s) else (zBd (m_X7_at n 19 5 v4 s) fun x2 s3 => zBd (m_X7_at n 17 5 x2 s3) fun x4 s5 => zLt (if x4 < v2 then x4 else v2) fun x6 => zLt (v2 - x6) fun x7 => zBd (m_X7_at n 17 5 x2 s5) fun x8 s9 => zBd (m_X7_at n 18 5 x2 s9) fun x10 s11 => zBd (m_X7_thousandths n (x8 - x6) x10 s11) fun x12 s13 => zLt (v3 + (x6 + x12)) fun x14 => zLt (v4 + (1 : Int32)) fun x15 => m_X2_sumInOrder_j7 n f x7 x14 x15 s13)
def m_X2_sumInOrder (n : Nat) (v1 : Int32) (s : zS) : Option (Int32 × zS) :=
  m_X2_sumInOrder_j7  n n v1 (0 : Int32) (0 : Int32) s
def m_X2_keepOrder_j2 (n : Nat) : Nat → Int32 → zS → Option (Int32 × zS)
  | 0, _, _ => none
  | f + 1, v1, s =>
    if (s 16 4) ≤ v1 then (zRt 0 s) else (zBd (m_X7_at n 19 5 v1 s) fun x2 s3 => zBd (m_X7_put n 20 5 v1 x2 s3) fun x4 s5 => zLt (v1 + (1 : Int32)) fun x6 => m_X2_keepOrder_j2 n f x6 s5)
def m_X2_keepOrder (n : Nat)  (s : zS) : Option (Int32 × zS) :=
  m_X2_keepOrder_j2  n n (0 : Int32) s
def m_X2_swap (n : Nat) (v1 : Int32) (v2 : Int32) (s : zS) : Option (Int32 × zS) :=
  zBd (m_X7_at n 19 5 v1 s) fun x1 s2 => zBd (m_X7_at n 19 5 v2 s2) fun x3 s4 => zBd (m_X7_put n 19 5 v1 x3 s4) fun x5 s6 => zBd (m_X7_put n 19 5 v2 x1 s6) fun x7 s8 => zRt 0 s8
def m_X2_toNextOrder_j99 (n : Nat) : Nat → Int32 → Int32 → zS → Option (Int32 × zS)
  | 0, _, _, _ => none
  | f + 1, v3, v4, s =>
    if v4 ≤ v3 then (zRt (1 : Int32) s) else (zBd (m_X2_swap n v3 v4 s) fun x2 s3 => zLt (v3 + (1 : Int32)) fun x4 => zLt (v4 + (-1 : Int32)) fun x5 => m_X2_toNextOrder_j99 n f x4 x5 s3)
def m_X2_toNextOrder_j81 (n : Nat) (v1 : Int32) (v2 : Int32) (s : zS) : Option (Int32 × zS) :=
  zBd (m_X2_swap n v1 v2 s) fun x6 s7 => zLt (v1 + (1 : Int32)) fun x8 => zLt ((s7 16 4) - (1 : Int32)) fun x9 => m_X2_toNextOrder_j99  n n x8 x9 s7
def m_X2_toNextOrder_j51 (n : Nat) : Nat → Int32 → Int32 → zS → Option (Int32 × zS)
  | 0, _, _, _ => none
  | f + 1, v1, v2, s =>
    if v2 ≤ v1 then (m_X2_toNextOrder_j81  n v1 v2 s) else (zBd (m_X7_at n 19 5 v2 s) fun x11 s12 => zBd (m_X7_at n 19 5 v1 s12) fun x13 s14 => if x13 ≤ x11 then (m_X2_toNextOrder_j81  n v1 v2 s14) else (zLt (v2 + (-1 : Int32)) fun x16 => m_X2_toNextOrder_j51 n f v1 x16 s14))
def m_X2_toNextOrder_j38 (n : Nat) (v1 : Int32) (s : zS) : Option (Int32 × zS) :=
  if 0 ≤ v1 then (zLt ((s 16 4) - (1 : Int32)) fun x18 => m_X2_toNextOrder_j51  n n v1 x18 s) else (zRt (0 : Int32) s)
def m_X2_toNextOrder_j7 (n : Nat) : Nat → Int32 → zS → Option (Int32 × zS)
  | 0, _, _ => none
  | f + 1, v1, s =>
    if v1 < 0 then (m_X2_toNextOrder_j38  n v1 s) else (zBd (m_X7_at n 19 5 v1 s) fun x20 s21 => zBd (m_X7_at n 19 5 (v1 + (1 : Int32)) s21) fun x22 s23 => if x20 ≤ x22 then (m_X2_toNextOrder_j38  n v1 s23) else (zLt (v1 + (-1 : Int32)) fun x25 => m_X2_toNextOrder_j7 n f x25 s23))
def m_X2_toNextOrder (n : Nat)  (s : zS) : Option (Int32 × zS) :=
  zLt ((s 16 4) - (2 : Int32)) fun x26 => m_X2_toNextOrder_j7  n n x26 s
def m_X2_findBest_j29 (n : Nat) : Nat → Int32 → Int32 → Int32 → Int32 → zS → Option (Int32 × zS)
  | 0, _, _, _, _, _ => none
  | f + 1, v1, v2, v3, v4, s =>
    if (120 : Int32) ≤ v4 then (zRt v2 s) else (if v3 = 0 then (zRt v2 s) else (zBd (m_X2_sumInOrder n v1 s) fun x3 s4 => if x3 ≤ v2 then (zBd (m_X2_toNextOrder n s4) fun x6 s7 => zLt (v4 + (1 : Int32)) fun x8 => m_X2_findBest_j29 n f v1 v2 x6 x8 s7) else (zBd (m_X2_keepOrder n s4) fun x9 s10 => zBd (m_X2_toNextOrder n s10) fun x11 s12 => zLt (v4 + (1 : Int32)) fun x13 => m_X2_findBest_j29 n f v1 x3 x11 x13 s12)))
def m_X2_findBest_j2 (n : Nat) : Nat → Int32 → Int32 → zS → Option (Int32 × zS)
  | 0, _, _, _ => none
  | f + 1, v1, v2, s =>
    if (5 : Int32) ≤ v2 then (m_X2_findBest_j29  n n v1 (-1 : Int32) (1 : Int32) (0 : Int32) s) else (zBd (m_X7_put n 19 5 v2 v2 s) fun x15 s16 => zLt (v2 + (1 : Int32)) fun x17 => m_X2_findBest_j2 n f v1 x17 s16)
def m_X2_findBest (n : Nat) (v1 : Int32) (s : zS) : Option (Int32 × zS) :=
  m_X2_findBest_j2  n n v1 (0 : Int32) s
def m_X7_bit (n : Nat) (v0 : Int32) (s : zS) : Option (Int32 × zS) :=
  zRt ((1 : Int32) <<< (v0 &&& 31)) s
def m_X7_has (n : Nat) (v0 : Int32) (v1 : Int32) (s : zS) : Option (Int32 × zS) :=
  zBd (m_X7_bit n v1 s) fun x1 s2 => if (v0 &&& x1) = 0 then (zRt (0 : Int32) s2) else (zRt (1 : Int32) s2)
def m_X3_add (n : Nat) (v1 : Int32) (s : zS) : Option (Int32 × zS) :=
  zBd (m_X7_has n (s 25 2) v1 s) fun x1 s2 => if x1 = 0 then (zBd (m_X7_put n 26 16 (s2 25 1) v1 s2) fun x4 s5 => zLt (zU s5 25 1 ((s5 25 1) + (1 : Int32))) fun s6 => zBd (m_X7_bit n v1 s6) fun x7 s8 => zLt (zU s8 25 2 ((s6 25 2) ||| x7)) fun s9 => zRt 0 s9) else (zRt 0 s2)
def m_X5_first (n : Nat) (v1 : Int32) (s : zS) : Option (Int32 × zS) :=
  zBd (m_X7_at n 3 16 v1 s) fun x1 s2 => zRt x1 s2
def m_X5_kind (n : Nat) (v1 : Int32) (s : zS) : Option (Int32 × zS) :=
  zBd (m_X7_at n 2 16 v1 s) fun x1 s2 => zRt x1 s2
def m_X6_of (n : Nat) (v1 : Int32) (s : zS) : Option (Int32 × zS) :=
  zBd (m_X7_at n 22 16 v1 s) fun x1 s2 => zRt x1 s2
def m_X5_second (n : Nat) (v1 : Int32) (s : zS) : Option (Int32 × zS) :=
  zBd (m_X7_at n 4 16 v1 s) fun x1 s2 => zRt x1 s2
def m_X3_addReasons (n : Nat) (v1 : Int32) (s : zS) : Option (Int32 × zS) :=
  zBd (m_X5_first n v1 s) fun x1 s2 => zBd (m_X5_kind n v1 s2) fun x3 s4 => if x3 = (1 : Int32) then (zBd (m_X3_add n x1 s4) fun x6 s7 => zBd (m_X5_second n v1 s7) fun x8 s9 => zBd (m_X3_add n x8 s9) fun x10 s11 => zRt 0 s11) else if x3 = (2 : Int32) then (zBd (m_X3_add n x1 s4) fun x13 s14 => zBd (m_X5_second n v1 s14) fun x15 s16 => zBd (m_X3_add n x15 s16) fun x17 s18 => zRt 0 s18) else if x3 = (3 : Int32) then (zBd (m_X3_add n x1 s4) fun x20 s21 => zRt 0 s21) else if x3 = (4 : Int32) then (zBd (m_X6_of n x1 s4) fun x23 s24 => zBd (m_X6_of n v1 s24) fun x25 s26 => if x23 = x25 then (zBd (m_X3_add n x1 s26) fun x32 s33 => zRt 0 s33) else (zBd (m_X5_second n v1 s26) fun x28 s29 => zBd (m_X3_add n x28 s29) fun x30 s31 => zRt 0 s31)) else if x3 = (5 : Int32) then (zBd (m_X6_of n x1 s4) fun x35 s36 => zBd (m_X6_of n v1 s36) fun x37 s38 => if x35 = x37 then (zBd (m_X3_add n x1 s38) fun x44 s45 => zRt 0 s45) else (zBd (m_X5_second n v1 s38) fun x40 s41 => zBd (m_X3_add n x40 s41) fun x42 s43 => zRt 0 s43)) else if x3 = (6 : Int32) then (zBd (m_X3_add n x1 s4) fun x47 s48 => zRt 0 s48) else if x3 = (7 : Int32) then (zBd (m_X3_add n x1 s4) fun x50 s51 => zRt 0 s51) else if x3 = (8 : Int32) then (zBd (m_X6_of n x1 s4) fun x53 s54 => zBd (m_X6_of n v1 s54) fun x55 s56 => if x53 = x55 then (zBd (m_X3_add n x1 s56) fun x62 s63 => zRt 0 s63) else (zBd (m_X5_second n v1 s56) fun x58 s59 => zBd (m_X3_add n x58 s59) fun x60 s61 => zRt 0 s61)) else (zRt 0 s4)
def m_X3_explain_j18 (n : Nat) : Nat → Int32 → zS → Option (Int32 × zS)
  | 0, _, _ => none
  | f + 1, v4, s =>
    if (16 : Int32) ≤ v4 then (zRt 0 s) else (if (s 25 1) ≤ v4 then (zRt 0 s) else (zBd (m_X7_at n 26 16 v4 s) fun x3 s4 => zBd (m_X3_addReasons n x3 s4) fun x5 s6 => zLt (v4 + (1 : Int32)) fun x7 => m_X3_explain_j18 n f x7 s6))
def m_X3_explain (n : Nat) (v1 : Int32) (s : zS) : Option (Int32 × zS) :=
  zLt (zU s 25 1 (0 : Int32)) fun s8 => zLt (zU s8 25 2 (0 : Int32)) fun s9 => zBd (m_X3_add n v1 s9) fun x10 s11 => m_X3_explain_j18  n n (0 : Int32) s11
def m_X3_lineAt (n : Nat) (v1 : Int32) (s : zS) : Option (Int32 × zS) :=
  if v1 < 0 then (zRt (-1 : Int32) s) else (if (s 25 1) ≤ v1 then (zRt (-1 : Int32) s) else (zBd (m_X7_at n 26 16 v1 s) fun x3 s4 => zRt x3 s4))
def m_X7_takesFirst (n : Nat) (v0 : Int32) (s : zS) : Option (Int32 × zS) :=
  if v0 = 0 then (zRt (0 : Int32) s) else (zRt (1 : Int32) s)
def m_X7_takesSecond_j26 (n : Nat)  (s : zS) : Option (Int32 × zS) :=
  zRt (1 : Int32) s
def m_X7_takesSecond (n : Nat) (v0 : Int32) (s : zS) : Option (Int32 × zS) :=
  if v0 = (1 : Int32) then (m_X7_takesSecond_j26  n s) else (if v0 = (2 : Int32) then (m_X7_takesSecond_j26  n s) else (if v0 = (4 : Int32) then (m_X7_takesSecond_j26  n s) else (if v0 = (5 : Int32) then (m_X7_takesSecond_j26  n s) else (if v0 = (8 : Int32) then (m_X7_takesSecond_j26  n s) else (zRt (0 : Int32) s)))))
def m_X5_uses_j25 (n : Nat) (v1 : Int32) (v2 : Int32) (t0 : Int32) (s : zS) : Option (Int32 × zS) :=
  zBd (m_X7_takesSecond n v2 s) fun x1 s2 => if x1 = 0 then (zRt t0 s2) else (zBd (m_X5_second n v1 s2) fun x4 s5 => zBd (m_X7_bit n x4 s5) fun x6 s7 => zRt (t0 ||| x6) s7)
def m_X5_uses (n : Nat) (v1 : Int32) (s : zS) : Option (Int32 × zS) :=
  zBd (m_X5_kind n v1 s) fun x8 s9 => zBd (m_X7_takesFirst n x8 s9) fun x10 s11 => if x10 = 0 then (m_X5_uses_j25  n v1 x8 (0 : Int32) s11) else (zBd (m_X5_first n v1 s11) fun x13 s14 => zBd (m_X7_bit n x13 s14) fun x15 s16 => m_X5_uses_j25  n v1 x8 x15 s16)
def m_X4_reach (n : Nat) (v1 : Int32) (s : zS) : Option (Int32 × zS) :=
  zBd (m_X7_at n 7 16 v1 s) fun x1 s2 => zRt x1 s2
def m_X4_findReach_j37 (rec29 : Int32 → zS → Option (Int32 × zS)) (n : Nat) : Nat → Int32 → Int32 → zS → Option (Int32 × zS)
  | 0, _, _, _ => none
  | f + 1, v2, v3, s =>
    if (16 : Int32) ≤ v3 then (zLt (v2 + (1 : Int32)) fun x2 => rec29 x2 s) else (zBd (m_X4_reach n v3 s) fun x3 s4 => zBd (m_X7_has n x3 v2 s4) fun x5 s6 => if x5 = 0 then (zLt (v3 + (1 : Int32)) fun x8 => m_X4_findReach_j37 rec29 n f v2 x8 s6) else (zBd (m_X4_reach n v3 s6) fun x9 s10 => zBd (m_X4_reach n v2 s10) fun x11 s12 => zBd (m_X7_put n 7 16 v3 (x9 ||| x11) s12) fun x13 s14 => zLt (v3 + (1 : Int32)) fun x15 => m_X4_findReach_j37 rec29 n f v2 x15 s14))
def m_X4_findReach_j29 (n : Nat) : Nat → Int32 → zS → Option (Int32 × zS)
  | 0, _, _ => none
  | f + 1, v2, s =>
    if (16 : Int32) ≤ v2 then (zRt 0 s) else (m_X4_findReach_j37 (m_X4_findReach_j29 n f) n n v2 (0 : Int32) s)
def m_X4_findReach_j2 (n : Nat) : Nat → Int32 → zS → Option (Int32 × zS)
  | 0, _, _ => none
  | f + 1, v2, s =>
    if (16 : Int32) ≤ v2 then (m_X4_findReach_j29  n n (0 : Int32) s) else (zBd (m_X5_uses n v2 s) fun x18 s19 => zBd (m_X7_put n 7 16 v2 x18 s19) fun x20 s21 => zLt (v2 + (1 : Int32)) fun x22 => m_X4_findReach_j2 n f x22 s21)
def m_X4_findReach (n : Nat)  (s : zS) : Option (Int32 × zS) :=
  m_X4_findReach_j2  n n (0 : Int32) s
def m_X4_findGroups_j15 (rec2 : Int32 → zS → Option (Int32 × zS)) (n : Nat) : Nat → Int32 → Int32 → Int32 → zS → Option (Int32 × zS)
  | 0, _, _, _, _ => none
  | f + 1, v1, v2, v3, s =>
    if (16 : Int32) ≤ v3 then (zBd (m_X7_put n 8 16 v1 v2 s) fun x2 s3 => zLt (v1 + (1 : Int32)) fun x4 => rec2 x4 s3) else (zBd (m_X4_reach n v1 s) fun x5 s6 => zBd (m_X7_has n x5 v3 s6) fun x7 s8 => if x7 = 0 then (zLt (v3 + (1 : Int32)) fun x10 => m_X4_findGroups_j15 rec2 n f v1 v2 x10 s8) else (zBd (m_X4_reach n v3 s8) fun x11 s12 => zBd (m_X7_has n x11 v1 s12) fun x13 s14 => if x13 = 0 then (zLt (v3 + (1 : Int32)) fun x16 => m_X4_findGroups_j15 rec2 n f v1 v2 x16 s14) else (zBd (m_X7_bit n v3 s14) fun x17 s18 => zLt (v2 ||| x17) fun x19 => zLt (v3 + (1 : Int32)) fun x20 => m_X4_findGroups_j15 rec2 n f v1 x19 x20 s18)))
def m_X4_findGroups_j2 (n : Nat) : Nat → Int32 → zS → Option (Int32 × zS)
  | 0, _, _ => none
  | f + 1, v1, s =>
    if (16 : Int32) ≤ v1 then (zRt 0 s) else (zBd (m_X7_bit n v1 s) fun x22 s23 => m_X4_findGroups_j15 (m_X4_findGroups_j2 n f) n n v1 x22 (0 : Int32) s23)
def m_X4_findGroups (n : Nat)  (s : zS) : Option (Int32 × zS) :=
  m_X4_findGroups_j2  n n (0 : Int32) s
def m_X4_groupOf (n : Nat) (v1 : Int32) (s : zS) : Option (Int32 × zS) :=
  zBd (m_X7_at n 8 16 v1 s) fun x1 s2 => zRt x1 s2
def m_X4_isReady (n : Nat) (v1 : Int32) (s : zS) : Option (Int32 × zS) :=
  zBd (m_X7_has n (s 6 4) v1 s) fun x1 s2 => if x1 = 0 then (zBd (m_X4_reach n v1 s2) fun x4 s5 => zBd (m_X4_groupOf n v1 s5) fun x6 s7 => if ((x4 &&& (x6 ^^^ (-1 : Int32))) &&& ((s7 6 4) ^^^ (-1 : Int32))) = 0 then (zRt (1 : Int32) s7) else (zRt (0 : Int32) s7)) else (zRt (0 : Int32) s2)
def m_X4_isCircular (n : Nat) (v1 : Int32) (s : zS) : Option (Int32 × zS) :=
  zBd (m_X4_reach n v1 s) fun x1 s2 => zBd (m_X7_has n x1 v1 s2) fun x3 s4 => zGd (vp_nar .boolean x3 = x3) (zRt x3 s4)
def m_X4_place (n : Nat) (v1 : Int32) (s : zS) : Option (Int32 × zS) :=
  zBd (m_X7_put n 9 16 (s 6 3) v1 s) fun x1 s2 => zLt (zU s2 6 3 ((s2 6 3) + (1 : Int32))) fun s3 => zBd (m_X7_bit n v1 s3) fun x4 s5 => zLt (zU s5 6 4 ((s3 6 4) ||| x4)) fun s6 => zRt 0 s6
def m_X4_onlyLimit_j5 (n : Nat) : Nat → Int32 → Int32 → Int32 → zS → Option (Int32 × zS)
  | 0, _, _, _, _ => none
  | f + 1, v2, v3, v4, s =>
    if (16 : Int32) ≤ v4 then (zRt v3 s) else (zBd (m_X7_has n v2 v4 s) fun x2 s3 => if x2 = 0 then (zLt (v4 + (1 : Int32)) fun x5 => m_X4_onlyLimit_j5 n f v2 v3 x5 s3) else (zBd (m_X5_kind n v4 s3) fun x6 s7 => if x6 = (8 : Int32) then (if v3 = (-1 : Int32) then (zLt (v4 + (1 : Int32)) fun x11 => m_X4_onlyLimit_j5 n f v2 v4 x11 s7) else (zRt (-1 : Int32) s7)) else (zLt (v4 + (1 : Int32)) fun x9 => m_X4_onlyLimit_j5 n f v2 v3 x9 s7)))
def m_X4_onlyLimit (n : Nat) (v2 : Int32) (s : zS) : Option (Int32 × zS) :=
  m_X4_onlyLimit_j5  n n v2 (-1 : Int32) (0 : Int32) s
def m_X4_direct_j127 (n : Nat) (v2 : Int32) (v7 : Int32) (s : zS) : Option (Int32 × zS) :=
  if v7 = 0 then (zRt 0 s) else (zBd (m_X7_bit n v2 s) fun x2 s3 => zLt (zU s3 6 6 ((s 6 6) ||| x2)) fun s4 => zRt 0 s4)
def m_X4_direct_j107 (n : Nat) (v2 : Int32) (v6 : Int32) (t0 : Int32) (s : zS) : Option (Int32 × zS) :=
  if v6 = 0 then (m_X4_direct_j127  n v2 t0 s) else (zBd (m_X7_bit n v2 s) fun x6 s7 => zLt (zU s7 6 5 ((s 6 5) ||| x6)) fun s8 => m_X4_direct_j127  n v2 t0 s8)
def m_X4_direct_j80 (n : Nat) (v2 : Int32) (v4 : Int32) (v5 : Int32) (t0 : Int32) (s : zS) : Option (Int32 × zS) :=
  if (v4 &&& (s 6 6)) = 0 then (if (v5 &&& (s 6 5)) = 0 then (m_X4_direct_j107  n v2 t0 (0 : Int32) s) else (m_X4_direct_j107  n v2 t0 (1 : Int32) s)) else (m_X4_direct_j107  n v2 t0 (1 : Int32) s)
def m_X4_direct_j53 (n : Nat) (v2 : Int32) (v4 : Int32) (t0 : Int32) (s : zS) : Option (Int32 × zS) :=
  if (v4 &&& (s 6 5)) = 0 then (if (t0 &&& (s 6 6)) = 0 then (m_X4_direct_j80  n v2 v4 t0 (0 : Int32) s) else (m_X4_direct_j80  n v2 v4 t0 (1 : Int32) s)) else (m_X4_direct_j80  n v2 v4 t0 (1 : Int32) s)
def m_X4_direct_j35 (n : Nat) (v2 : Int32) (v3 : Int32) (t0 : Int32) (s : zS) : Option (Int32 × zS) :=
  if v3 = 0 then (m_X4_direct_j53  n v2 t0 (0 : Int32) s) else (zBd (m_X5_second n v2 s) fun x14 s15 => zBd (m_X7_bit n x14 s15) fun x16 s17 => m_X4_direct_j53  n v2 t0 x16 s17)
def m_X4_direct_j14 (n : Nat) (v2 : Int32) (t0 : Int32) (s : zS) : Option (Int32 × zS) :=
  if t0 = 0 then (zBd (m_X5_uses n v2 s) fun x19 s20 => m_X4_direct_j35  n v2 t0 x19 s20) else (zBd (m_X5_first n v2 s) fun x21 s22 => zBd (m_X7_bit n x21 s22) fun x23 s24 => m_X4_direct_j35  n v2 t0 x23 s24)
def m_X4_direct (n : Nat) (v2 : Int32) (s : zS) : Option (Int32 × zS) :=
  zBd (m_X5_kind n v2 s) fun x25 s26 => if x25 = (2 : Int32) then (m_X4_direct_j14  n v2 (1 : Int32) s26) else (m_X4_direct_j14  n v2 (0 : Int32) s26)
def m_X4_placeCircle_j137 (n : Nat) (v3 : Int32) (t0 : Int32) (s : zS) : Option (Int32 × zS) :=
  if t0 = 0 then (zRt (0 : Int32) s) else (if ((s 6 5) &&& (s 6 6)) = 0 then (zBd (m_X5_second n v3 s) fun x3 s4 => zBd (m_X7_has n (s 6 6) x3 s4) fun x5 s6 => if x5 = 0 then (zRt (0 : Int32) s6) else (zRt (1 : Int32) s6)) else (zRt (0 : Int32) s))
def m_X4_placeCircle_j57 (rec47 : Int32 → Int32 → Int32 → zS → Option (Int32 × zS)) (n : Nat) : Nat → Int32 → Int32 → Int32 → Int32 → zS → Option (Int32 × zS)
  | 0, _, _, _, _, _ => none
  | f + 1, v2, v3, v4, v5, s =>
    if (16 : Int32) ≤ v5 then (zLt (v4 + (1 : Int32)) fun x9 => rec47 v2 v3 x9 s) else (zBd (m_X7_has n (v2 &&& ((s 6 4) ^^^ (-1 : Int32))) v5 s) fun x10 s11 => if x10 = 0 then (zLt (v5 + (1 : Int32)) fun x13 => m_X4_placeCircle_j57 rec47 n f v2 v3 v4 x13 s11) else (zBd (m_X5_uses n v5 s11) fun x14 s15 => if (x14 &&& ((s15 6 4) ^^^ (-1 : Int32))) = 0 then (zBd (m_X4_place n v5 s15) fun x18 s19 => zBd (m_X4_direct n v5 s19) fun x20 s21 => zLt (v5 + (1 : Int32)) fun x22 => m_X4_placeCircle_j57 rec47 n f v2 v3 v4 x22 s21) else (zLt (v5 + (1 : Int32)) fun x17 => m_X4_placeCircle_j57 rec47 n f v2 v3 v4 x17 s15)))
def m_X4_placeCircle_j47 (n : Nat) : Nat → Int32 → Int32 → Int32 → zS → Option (Int32 × zS)
  | 0, _, _, _, _ => none
  | f + 1, v2, v3, v4, s =>
    if (16 : Int32) ≤ v4 then (if (v2 &&& ((s 6 4) ^^^ (-1 : Int32))) = 0 then (m_X4_placeCircle_j137  n v3 (1 : Int32) s) else (m_X4_placeCircle_j137  n v3 (0 : Int32) s)) else (m_X4_placeCircle_j57 (m_X4_placeCircle_j47 n f) n n v2 v3 v4 (0 : Int32) s)
def m_X4_placeCircle (n : Nat) (v2 : Int32) (s : zS) : Option (Int32 × zS) :=
  zBd (m_X4_onlyLimit n v2 s) fun x25 s26 => if x25 = (-1 : Int32) then (zRt (0 : Int32) s26) else (zBd (m_X5_first n x25 s26) fun x28 s29 => zBd (m_X7_has n v2 x28 s29) fun x30 s31 => if x30 = 0 then (zBd (m_X7_bit n x25 s31) fun x33 s34 => zLt (zU s34 6 5 x33) fun s35 => zLt (zU s35 6 6 (0 : Int32)) fun s36 => zBd (m_X4_place n x25 s36) fun x37 s38 => m_X4_placeCircle_j47  n n v2 x25 (0 : Int32) s38) else (zRt (0 : Int32) s31))
def m_X4_make_j68 (rec21 : Int32 → zS → Option (Int32 × zS)) (rec38 : Int32 → Int32 → zS → Option (Int32 × zS)) (n : Nat) (v2 : Int32) (v3 : Int32) (s : zS) : Option (Int32 × zS) :=
  zBd (m_X4_isReady n v3 s) fun x1 s2 => if x1 = 0 then (zLt (v3 + (1 : Int32)) fun x4 => rec38 v2 x4 s2) else (zBd (m_X4_groupOf n v3 s2) fun x5 s6 => zBd (m_X4_placeCircle n x5 s6) fun x7 s8 => if x7 = 0 then (zRt (0 : Int32) s8) else (zLt (v3 + (1 : Int32)) fun x10 => rec38 v2 x10 s8))
def m_X4_make_j38 (rec21 : Int32 → zS → Option (Int32 × zS)) (n : Nat) : Nat → Int32 → Int32 → zS → Option (Int32 × zS)
  | 0, _, _, _ => none
  | f + 1, v2, v3, s =>
    if (16 : Int32) ≤ v3 then (zLt (v2 + (1 : Int32)) fun x12 => rec21 x12 s) else (zBd (m_X4_isReady n v3 s) fun x13 s14 => if x13 = 0 then (m_X4_make_j68 rec21 (m_X4_make_j38 rec21 n f) n v2 v3 s14) else (zBd (m_X4_isCircular n v3 s14) fun x16 s17 => if x16 = 0 then (zBd (m_X4_place n v3 s17) fun x19 s20 => zLt (v3 + (1 : Int32)) fun x21 => m_X4_make_j38 rec21 n f v2 x21 s20) else (m_X4_make_j68 rec21 (m_X4_make_j38 rec21 n f) n v2 v3 s17)))
def m_X4_make_j21 (n : Nat) : Nat → Int32 → zS → Option (Int32 × zS)
  | 0, _, _ => none
  | f + 1, v2, s =>
    if (16 : Int32) ≤ v2 then (zRt (1 : Int32) s) else (if (s 6 4) = (65535 : Int32) then (zRt (1 : Int32) s) else (m_X4_make_j38 (m_X4_make_j21 n f) n n v2 (0 : Int32) s))
def m_X4_make (n : Nat)  (s : zS) : Option (Int32 × zS) :=
  zBd (m_X4_findReach n s) fun x24 s25 => zBd (m_X4_findGroups n s25) fun x26 s27 => zLt (zU s27 6 3 (0 : Int32)) fun s28 => zLt (zU s28 6 4 (0 : Int32)) fun s29 => m_X4_make_j21  n n (0 : Int32) s29
def m_X4_lineAt (n : Nat) (v1 : Int32) (s : zS) : Option (Int32 × zS) :=
  zBd (m_X7_at n 9 16 v1 s) fun x1 s2 => zRt x1 s2
def m_X4_placeOf_j2 (n : Nat) : Nat → Int32 → Int32 → zS → Option (Int32 × zS)
  | 0, _, _, _ => none
  | f + 1, v1, v2, s =>
    if (16 : Int32) ≤ v2 then (zRt (-1 : Int32) s) else (zBd (m_X4_lineAt n v2 s) fun x2 s3 => if x2 = v1 then (zRt v2 s3) else (zLt (v2 + (1 : Int32)) fun x5 => m_X4_placeOf_j2 n f v1 x5 s3))
def m_X4_placeOf (n : Nat) (v1 : Int32) (s : zS) : Option (Int32 × zS) :=
  m_X4_placeOf_j2  n n v1 (0 : Int32) s
def m_X5_set (n : Nat) (v1 : Int32) (v2 : Int32) (v3 : Int32) (v4 : Int32) (s : zS) : Option (Int32 × zS) :=
  zBd (m_X7_put n 2 16 v1 v2 s) fun x1 s2 => zBd (m_X7_put n 3 16 v1 v3 s2) fun x3 s4 => zBd (m_X7_put n 4 16 v1 v4 s4) fun x5 s6 => zRt 0 s6
def m_X5_given (n : Nat) (v1 : Int32) (s : zS) : Option (Int32 × zS) :=
  zBd (m_X7_at n 5 16 v1 s) fun x1 s2 => zRt x1 s2
def m_X5_give (n : Nat) (v1 : Int32) (v2 : Int32) (s : zS) : Option (Int32 × zS) :=
  zBd (m_X7_put n 5 16 v1 v2 s) fun x1 s2 => zRt 0 s2
def m_J6_bitCount_0f7a4 (n : Nat) (v0 : Int32) (s : zS) : Option (Int32 × zS) :=
  zLt (v0 - (((v0.toUInt32 >>> ((1 : Int32).toUInt32 &&& Int32.toUInt32 31)).toInt32) &&& (1431655765 : Int32))) fun x1 => zLt ((x1 &&& (858993459 : Int32)) + (((x1.toUInt32 >>> ((2 : Int32).toUInt32 &&& Int32.toUInt32 31)).toInt32) &&& (858993459 : Int32))) fun x2 => zLt ((x2 + ((x2.toUInt32 >>> ((4 : Int32).toUInt32 &&& Int32.toUInt32 31)).toInt32)) &&& (252645135 : Int32)) fun x3 => zLt (x3 + ((x3.toUInt32 >>> ((8 : Int32).toUInt32 &&& Int32.toUInt32 31)).toInt32)) fun x4 => zLt (x4 + ((x4.toUInt32 >>> ((16 : Int32).toUInt32 &&& Int32.toUInt32 31)).toInt32)) fun x5 => zRt (x5 &&& (63 : Int32)) s
def m_X6_plain (n : Nat) (v1 : Int32) (s : zS) : Option (Int32 × zS) :=
  zBd (m_X5_first n v1 s) fun x1 s2 => zBd (m_X6_of n x1 s2) fun x3 s4 => zBd (m_X5_second n v1 s4) fun x5 s6 => zBd (m_X5_kind n v1 s6) fun x7 s8 => if x7 = (1 : Int32) then (zBd (m_X6_of n x5 s8) fun x10 s11 => zRt (if (1000000000 : Int32) < (x3 + x10) then (1000000000 : Int32) else (x3 + x10)) s11) else if x7 = (2 : Int32) then (zBd (m_X6_of n x5 s8) fun x13 s14 => zRt (if (x3 - x13) < (0 : Int32) then (0 : Int32) else (x3 - x13)) s14) else if x7 = (3 : Int32) then (zBd (m_X7_thousandths n x3 x5 s8) fun x16 s17 => zRt x16 s17) else if x7 = (4 : Int32) then (zBd (m_X6_of n x5 s8) fun x19 s20 => zRt (if x19 < x3 then x19 else x3) s20) else if x7 = (5 : Int32) then (zBd (m_X6_of n x5 s8) fun x22 s23 => zRt (if x3 < x22 then x22 else x3) s23) else if x7 = (6 : Int32) then (zBd (m_X1_tax n x3 s8) fun x25 s26 => zRt x25 s26) else if x7 = (7 : Int32) then (zBd (m_X0_total n s8) fun x28 s29 => zRt (if x28 < x3 then x28 else x3) s29) else if x7 = (8 : Int32) then (zBd (m_X6_of n x5 s8) fun x31 s32 => zRt (if x31 < x3 then x31 else x3) s32) else (if v1 = (s8 21 5) then (zBd (m_X5_given n v1 s8) fun x36 s37 => zRt (x36 + (1 : Int32)) s37) else (zBd (m_X5_given n v1 s8) fun x34 s35 => zRt x34 s35))
def m_X6_suppose_j38 (n : Nat) : Nat → Int32 → Int32 → zS → Option (Int32 × zS)
  | 0, _, _, _ => none
  | f + 1, v4, v5, s =>
    if v4 ≤ v5 then (zRt 0 s) else (zBd (m_X4_lineAt n v5 s) fun x2 s3 => zBd (m_X6_plain n x2 s3) fun x4 s5 => zBd (m_X7_put n 22 16 x2 x4 s5) fun x6 s7 => zLt (v5 + (1 : Int32)) fun x8 => m_X6_suppose_j38 n f v4 x8 s7)
def m_X6_suppose (n : Nat) (v1 : Int32) (v2 : Int32) (s : zS) : Option (Int32 × zS) :=
  zBd (m_X4_lineAt n v1 s) fun x9 s10 => zBd (m_X7_put n 22 16 x9 v2 s10) fun x11 s12 => zBd (m_X4_groupOf n x9 s12) fun x13 s14 => zBd (m_J6_bitCount_0f7a4 n x13 s14) fun x15 s16 => zLt (v1 + x15) fun x17 => zLt (v1 + (1 : Int32)) fun x18 => m_X6_suppose_j38  n n x17 x18 s16
def m_X6_greatest_j28 (n : Nat) : Nat → Int32 → Int32 → Int32 → Int32 → Int32 → zS → Option (Int32 × zS)
  | 0, _, _, _, _, _, _ => none
  | f + 1, v1, v2, v3, v4, v5, s =>
    if (31 : Int32) ≤ v5 then (zRt v3 s) else (if v4 ≤ v3 then (zRt v3 s) else (zLt (v3 + (((v4 - v3) + (1 : Int32)) / (2 : Int32))) fun x3 => zBd (m_X6_suppose n v1 x3 s) fun x4 s5 => zBd (m_X5_second n v2 s5) fun x6 s7 => zBd (m_X6_of n x6 s7) fun x8 s9 => if x8 < x3 then (zLt (x3 - (1 : Int32)) fun x11 => zLt (v5 + (1 : Int32)) fun x12 => m_X6_greatest_j28 n f v1 v2 v3 x11 x12 s9) else (zLt (v5 + (1 : Int32)) fun x13 => m_X6_greatest_j28 n f v1 v2 x3 v4 x13 s9)))
def m_X6_greatest (n : Nat) (v1 : Int32) (s : zS) : Option (Int32 × zS) :=
  zBd (m_X4_lineAt n v1 s) fun x14 s15 => zBd (m_X5_first n x14 s15) fun x16 s17 => zBd (m_X6_of n x16 s17) fun x18 s19 => m_X6_greatest_j28  n n v1 x14 (0 : Int32) x18 (0 : Int32) s19
def m_X6_workOut_j51 (rec7 : Int32 → zS → Option (Int32 × zS)) (n : Nat) (v2 : Int32) (v3 : Int32) (t0 : Int32) (s : zS) : Option (Int32 × zS) :=
  if t0 = 0 then (zBd (m_X6_plain n v3 s) fun x2 s3 => zBd (m_X7_put n 22 16 v3 x2 s3) fun x4 s5 => zLt (v2 + (1 : Int32)) fun x6 => rec7 x6 s5) else (zBd (m_X6_greatest n v2 s) fun x7 s8 => zBd (m_X7_put n 22 16 v3 x7 s8) fun x9 s10 => zLt (v2 + (1 : Int32)) fun x11 => rec7 x11 s10)
def m_X6_workOut_j7 (n : Nat) : Nat → Int32 → zS → Option (Int32 × zS)
  | 0, _, _ => none
  | f + 1, v2, s =>
    if (16 : Int32) ≤ v2 then (zRt 0 s) else (zBd (m_X4_lineAt n v2 s) fun x13 s14 => zBd (m_X5_kind n x13 s14) fun x15 s16 => if x15 = (8 : Int32) then (zBd (m_X4_isCircular n x13 s16) fun x18 s19 => if x18 = 0 then (m_X6_workOut_j51 (m_X6_workOut_j7 n f) n v2 x13 (0 : Int32) s19) else (m_X6_workOut_j51 (m_X6_workOut_j7 n f) n v2 x13 (1 : Int32) s19)) else (m_X6_workOut_j51 (m_X6_workOut_j7 n f) n v2 x13 (0 : Int32) s16))
def m_X6_workOut (n : Nat) (v1 : Int32) (s : zS) : Option (Int32 × zS) :=
  zLt (zU s 21 5 v1) fun s21 => m_X6_workOut_j7  n n (0 : Int32) s21
def m_X7_isWithin (n : Nat) (v0 : Int32) (v1 : Int32) (v2 : Int32) (s : zS) : Option (Int32 × zS) :=
  if v0 < v1 then (zRt (0 : Int32) s) else (if v2 < v0 then (zRt (0 : Int32) s) else (zRt (1 : Int32) s))
def m_X7_checkPlace (n : Nat) (v0 : Int32) (s : zS) : Option ((Int32 ⊕ Nat) × zS) :=
  if v0 = 0 then (zTx 1 s) else (zRx 0 s)
def m_X7_checkLine (n : Nat) (v0 : Int32) (s : zS) : Option ((Int32 ⊕ Nat) × zS) :=
  zBd (m_X7_isWithin n v0 (0 : Int32) (15 : Int32) s) fun x1 s2 => zBx (m_X7_checkPlace n x1 s2) fun x3 s4 => zRx 0 s4
def m_X7_checkArgument (n : Nat) (v0 : Int32) (s : zS) : Option ((Int32 ⊕ Nat) × zS) :=
  if v0 = 0 then (zTx 2 s) else (zRx 0 s)
def m_X7_define_j73 (n : Nat) (v1 : Int32) (v2 : Int32) (v3 : Int32) (v4 : Int32) (t0 : Int32) (s : zS) : Option ((Int32 ⊕ Nat) × zS) :=
  zBx (m_X7_checkArgument n t0 s) fun x1 s2 => zBd (m_X5_kind n v1 s2) fun x3 s4 => zBd (m_X5_first n v1 s4) fun x5 s6 => zBd (m_X5_second n v1 s6) fun x7 s8 => zBd (m_X5_set n v1 v2 v3 v4 s8) fun x9 s10 => zBd (m_X4_make n s10) fun x11 s12 => if x11 = 0 then (zBd (m_X5_set n v1 x3 x5 x7 s12) fun x14 s15 => zBd (m_X4_make n s15) fun x16 s17 => zTx 3 s17) else (zRx 0 s12)
def m_X7_define_j46 (n : Nat) (v1 : Int32) (v2 : Int32) (v3 : Int32) (v4 : Int32) (v5 : Int32) (s : zS) : Option ((Int32 ⊕ Nat) × zS) :=
  if v5 = 0 then (m_X7_define_j73  n v1 v2 v3 v4 (0 : Int32) s) else (if v2 = (3 : Int32) then (zBd (m_X7_isWithin n v4 (0 : Int32) (1000 : Int32) s) fun x20 s21 => if x20 = 0 then (m_X7_define_j73  n v1 v2 v3 v4 (0 : Int32) s21) else (m_X7_define_j73  n v1 v2 v3 v4 (1 : Int32) s21)) else (m_X7_define_j73  n v1 v2 v3 v4 (1 : Int32) s))
def m_X7_define_j29 (n : Nat) (v1 : Int32) (v2 : Int32) (v3 : Int32) (v4 : Int32) (v5 : Int32) (s : zS) : Option ((Int32 ⊕ Nat) × zS) :=
  if v5 = 0 then (m_X7_define_j46  n v1 v2 v3 v4 v5 s) else (zBd (m_X7_takesSecond n v2 s) fun x24 s25 => if x24 = 0 then (m_X7_define_j46  n v1 v2 v3 v4 v5 s25) else (zBx (m_X7_checkLine n v4 s25) fun x27 s28 => m_X7_define_j46  n v1 v2 v3 v4 v5 s28))
def m_X7_define (n : Nat) (v1 : Int32) (v2 : Int32) (v3 : Int32) (v4 : Int32) (s : zS) : Option ((Int32 ⊕ Nat) × zS) :=
  zBx (m_X7_checkLine n v1 s) fun x29 s30 => zBd (m_X7_isWithin n v2 (0 : Int32) (8 : Int32) s30) fun x31 s32 => if x31 = 0 then (m_X7_define_j29  n v1 v2 v3 v4 x31 s32) else (zBd (m_X7_takesFirst n v2 s32) fun x34 s35 => if x34 = 0 then (m_X7_define_j29  n v1 v2 v3 v4 x31 s35) else (zBx (m_X7_checkLine n v3 s35) fun x37 s38 => m_X7_define_j29  n v1 v2 v3 v4 x31 s38))
def m_X7_answer (n : Nat) (v1 : Int32) (v2 : Int32) (s : zS) : Option ((Int32 ⊕ Nat) × zS) :=
  zBx (m_X7_checkLine n v1 s) fun x1 s2 => zBd (m_X7_isWithin n v2 (0 : Int32) (1000000 : Int32) s2) fun x3 s4 => zBx (m_X7_checkArgument n x3 s4) fun x5 s6 => zBd (m_X5_given n v1 s6) fun x7 s8 => zBd (m_X5_give n v1 v2 s8) fun x9 s10 => zRx x7 s10
def m_X7_kindOf (n : Nat) (v1 : Int32) (s : zS) : Option ((Int32 ⊕ Nat) × zS) :=
  zBx (m_X7_checkLine n v1 s) fun x1 s2 => zBd (m_X5_kind n v1 s2) fun x3 s4 => zRx x3 s4
def m_X7_value (n : Nat) (v1 : Int32) (s : zS) : Option ((Int32 ⊕ Nat) × zS) :=
  zBx (m_X7_checkLine n v1 s) fun x1 s2 => zBd (m_X6_workOut n (-1 : Int32) s2) fun x3 s4 => zBd (m_X6_of n v1 s4) fun x5 s6 => zRx x5 s6
def m_X7_checkState (n : Nat) (v0 : Int32) (s : zS) : Option ((Int32 ⊕ Nat) × zS) :=
  if v0 = 0 then (zTx 3 s) else (zRx 0 s)
def m_X7_boundFor_j32 (n : Nat) (v1 : Int32) (v2 : Int32) (t0 : Int32) (s : zS) : Option ((Int32 ⊕ Nat) × zS) :=
  zBx (m_X7_checkState n t0 s) fun x1 s2 => zBd (m_X6_workOut n (-1 : Int32) s2) fun x3 s4 => zBd (m_X4_placeOf n v1 s4) fun x5 s6 => zBd (m_X6_suppose n x5 v2 s6) fun x7 s8 => zBd (m_X5_second n v1 s8) fun x9 s10 => zBd (m_X6_of n x9 s10) fun x11 s12 => zRx x11 s12
def m_X7_boundFor (n : Nat) (v1 : Int32) (v2 : Int32) (s : zS) : Option ((Int32 ⊕ Nat) × zS) :=
  zBx (m_X7_checkLine n v1 s) fun x13 s14 => zBd (m_X7_isWithin n v2 (0 : Int32) (1000000000 : Int32) s14) fun x15 s16 => zBx (m_X7_checkArgument n x15 s16) fun x17 s18 => zBd (m_X5_kind n v1 s18) fun x19 s20 => if x19 = (8 : Int32) then (m_X7_boundFor_j32  n v1 v2 (1 : Int32) s20) else (m_X7_boundFor_j32  n v1 v2 (0 : Int32) s20)
def m_X7_dependsOn (n : Nat) (v1 : Int32) (v2 : Int32) (s : zS) : Option ((Int32 ⊕ Nat) × zS) :=
  zBx (m_X7_checkLine n v1 s) fun x1 s2 => zBx (m_X7_checkLine n v2 s2) fun x3 s4 => zBd (m_X4_reach n v1 s4) fun x5 s6 => zBd (m_X7_has n x5 v2 s6) fun x7 s8 => zGd (vp_nar .boolean x7 = x7) (zRx x7 s8)
def m_X6b_of (n : Nat) (v1 : Int32) (s : zS) : Option (Int32 × zS) :=
  zBd (m_X7_at n 24 16 v1 s) fun x1 s2 => zRt x1 s2
def m_X6b_plain (n : Nat) (v1 : Int32) (s : zS) : Option (Int32 × zS) :=
  zBd (m_X5_first n v1 s) fun x1 s2 => zBd (m_X6b_of n x1 s2) fun x3 s4 => zBd (m_X5_second n v1 s4) fun x5 s6 => zBd (m_X5_kind n v1 s6) fun x7 s8 => if x7 = (1 : Int32) then (zBd (m_X6b_of n x5 s8) fun x10 s11 => zRt (if (1000000000 : Int32) < (x3 + x10) then (1000000000 : Int32) else (x3 + x10)) s11) else if x7 = (2 : Int32) then (zBd (m_X6b_of n x5 s8) fun x13 s14 => zRt (if (x3 - x13) < (0 : Int32) then (0 : Int32) else (x3 - x13)) s14) else if x7 = (3 : Int32) then (zBd (m_X7_thousandths n x3 x5 s8) fun x16 s17 => zRt x16 s17) else if x7 = (4 : Int32) then (zBd (m_X6b_of n x5 s8) fun x19 s20 => zRt (if x19 < x3 then x19 else x3) s20) else if x7 = (5 : Int32) then (zBd (m_X6b_of n x5 s8) fun x22 s23 => zRt (if x3 < x22 then x22 else x3) s23) else if x7 = (6 : Int32) then (zBd (m_X1_tax n x3 s8) fun x25 s26 => zRt x25 s26) else if x7 = (7 : Int32) then (zBd (m_X0_total n s8) fun x28 s29 => zRt (if x28 < x3 then x28 else x3) s29) else if x7 = (8 : Int32) then (zBd (m_X6b_of n x5 s8) fun x31 s32 => zRt (if x31 < x3 then x31 else x3) s32) else (if v1 = (s8 23 5) then (zBd (m_X5_given n v1 s8) fun x36 s37 => zRt (x36 + (1 : Int32)) s37) else (zBd (m_X5_given n v1 s8) fun x34 s35 => zRt x34 s35))
def m_X6b_suppose_j38 (n : Nat) : Nat → Int32 → Int32 → zS → Option (Int32 × zS)
  | 0, _, _, _ => none
  | f + 1, v4, v5, s =>
    if v4 ≤ v5 then (zRt 0 s) else (zBd (m_X4_lineAt n v5 s) fun x2 s3 => zBd (m_X6b_plain n x2 s3) fun x4 s5 => zBd (m_X7_put n 24 16 x2 x4 s5) fun x6 s7 => zLt (v5 + (1 : Int32)) fun x8 => m_X6b_suppose_j38 n f v4 x8 s7)
def m_X6b_suppose (n : Nat) (v1 : Int32) (v2 : Int32) (s : zS) : Option (Int32 × zS) :=
  zBd (m_X4_lineAt n v1 s) fun x9 s10 => zBd (m_X7_put n 24 16 x9 v2 s10) fun x11 s12 => zBd (m_X4_groupOf n x9 s12) fun x13 s14 => zBd (m_J6_bitCount_0f7a4 n x13 s14) fun x15 s16 => zLt (v1 + x15) fun x17 => zLt (v1 + (1 : Int32)) fun x18 => m_X6b_suppose_j38  n n x17 x18 s16
def m_X6b_greatest_j28 (n : Nat) : Nat → Int32 → Int32 → Int32 → Int32 → Int32 → zS → Option (Int32 × zS)
  | 0, _, _, _, _, _, _ => none
  | f + 1, v1, v2, v3, v4, v5, s =>
    if (31 : Int32) ≤ v5 then (zRt v3 s) else (if v4 ≤ v3 then (zRt v3 s) else (zLt (v3 + (((v4 - v3) + (1 : Int32)) / (2 : Int32))) fun x3 => zBd (m_X6b_suppose n v1 x3 s) fun x4 s5 => zBd (m_X5_second n v2 s5) fun x6 s7 => zBd (m_X6b_of n x6 s7) fun x8 s9 => if x8 < x3 then (zLt (x3 - (1 : Int32)) fun x11 => zLt (v5 + (1 : Int32)) fun x12 => m_X6b_greatest_j28 n f v1 v2 v3 x11 x12 s9) else (zLt (v5 + (1 : Int32)) fun x13 => m_X6b_greatest_j28 n f v1 v2 x3 v4 x13 s9)))
def m_X6b_greatest (n : Nat) (v1 : Int32) (s : zS) : Option (Int32 × zS) :=
  zBd (m_X4_lineAt n v1 s) fun x14 s15 => zBd (m_X5_first n x14 s15) fun x16 s17 => zBd (m_X6b_of n x16 s17) fun x18 s19 => m_X6b_greatest_j28  n n v1 x14 (0 : Int32) x18 (0 : Int32) s19
def m_X6b_workOut_j51 (rec7 : Int32 → zS → Option (Int32 × zS)) (n : Nat) (v2 : Int32) (v3 : Int32) (t0 : Int32) (s : zS) : Option (Int32 × zS) :=
  if t0 = 0 then (zBd (m_X6b_plain n v3 s) fun x2 s3 => zBd (m_X7_put n 24 16 v3 x2 s3) fun x4 s5 => zLt (v2 + (1 : Int32)) fun x6 => rec7 x6 s5) else (zBd (m_X6b_greatest n v2 s) fun x7 s8 => zBd (m_X7_put n 24 16 v3 x7 s8) fun x9 s10 => zLt (v2 + (1 : Int32)) fun x11 => rec7 x11 s10)
def m_X6b_workOut_j7 (n : Nat) : Nat → Int32 → zS → Option (Int32 × zS)
  | 0, _, _ => none
  | f + 1, v2, s =>
    if (16 : Int32) ≤ v2 then (zRt 0 s) else (zBd (m_X4_lineAt n v2 s) fun x13 s14 => zBd (m_X5_kind n x13 s14) fun x15 s16 => if x15 = (8 : Int32) then (zBd (m_X4_isCircular n x13 s16) fun x18 s19 => if x18 = 0 then (m_X6b_workOut_j51 (m_X6b_workOut_j7 n f) n v2 x13 (0 : Int32) s19) else (m_X6b_workOut_j51 (m_X6b_workOut_j7 n f) n v2 x13 (1 : Int32) s19)) else (m_X6b_workOut_j51 (m_X6b_workOut_j7 n f) n v2 x13 (0 : Int32) s16))
def m_X6b_workOut (n : Nat) (v1 : Int32) (s : zS) : Option (Int32 × zS) :=
  zLt (zU s 23 5 v1) fun s21 => m_X6b_workOut_j7  n n (0 : Int32) s21
def m_X7_influence_j37 (n : Nat) : Nat → Int32 → Int32 → zS → Option ((Int32 ⊕ Nat) × zS)
  | 0, _, _, _ => none
  | f + 1, v2, v3, s =>
    if (16 : Int32) ≤ v3 then (zRx v2 s) else (zBd (m_X6_of n v3 s) fun x2 s3 => zBd (m_X6b_of n v3 s3) fun x4 s5 => if x2 = x4 then (zLt (v3 + (1 : Int32)) fun x7 => m_X7_influence_j37 n f v2 x7 s5) else (zLt (v2 + (1 : Int32)) fun x8 => zLt (v3 + (1 : Int32)) fun x9 => m_X7_influence_j37 n f x8 x9 s5))
def m_X7_influence (n : Nat) (v1 : Int32) (s : zS) : Option ((Int32 ⊕ Nat) × zS) :=
  zBx (m_X7_checkLine n v1 s) fun x10 s11 => zBd (m_X5_kind n v1 s11) fun x12 s13 => if x12 = 0 then (zBd (m_X6_workOut n (-1 : Int32) s13) fun x15 s16 => zBd (m_X6b_workOut n v1 s16) fun x17 s18 => m_X7_influence_j37  n n (0 : Int32) (0 : Int32) s18) else (zRx (0 : Int32) s13)
def m_X7_why_j13 (n : Nat) (v1 : Int32) (v2 : Int32) (t0 : Int32) (s : zS) : Option ((Int32 ⊕ Nat) × zS) :=
  zBx (m_X7_checkPlace n t0 s) fun x1 s2 => zBd (m_X6_workOut n (-1 : Int32) s2) fun x3 s4 => zBd (m_X3_explain n v1 s4) fun x5 s6 => zBd (m_X3_lineAt n v2 s6) fun x7 s8 => zRx x7 s8
def m_X7_why (n : Nat) (v1 : Int32) (v2 : Int32) (s : zS) : Option ((Int32 ⊕ Nat) × zS) :=
  zBx (m_X7_checkLine n v1 s) fun x9 s10 => if v2 < 0 then (m_X7_why_j13  n v1 v2 (0 : Int32) s10) else (m_X7_why_j13  n v1 v2 (1 : Int32) s10)
def m_X7_bracket_j26 (n : Nat) (v1 : Int32) (v2 : Int32) (t0 : Int32) (s : zS) : Option ((Int32 ⊕ Nat) × zS) :=
  zBx (m_X7_checkArgument n t0 s) fun x1 s2 => zBd (m_X1_hasRoomFor n v1 s2) fun x3 s4 => zBx (m_X7_checkState n x3 s4) fun x5 s6 => zBd (m_X1_set n v1 v2 s6) fun x7 s8 => zBd (m_X1_size n s8) fun x9 s10 => zRx x9 s10
def m_X7_bracket (n : Nat) (v1 : Int32) (v2 : Int32) (s : zS) : Option ((Int32 ⊕ Nat) × zS) :=
  zBd (m_X7_isWithin n v1 (0 : Int32) (1000000 : Int32) s) fun x11 s12 => if x11 = 0 then (m_X7_bracket_j26  n v1 v2 (0 : Int32) s12) else (zBd (m_X7_isWithin n v2 (0 : Int32) (1000 : Int32) s12) fun x14 s15 => if x14 = 0 then (m_X7_bracket_j26  n v1 v2 (0 : Int32) s15) else (m_X7_bracket_j26  n v1 v2 (1 : Int32) s15))
def m_X7_dropBrackets (n : Nat)  (s : zS) : Option (Int32 × zS) :=
  zBd (m_X1_size n s) fun x1 s2 => zBd (m_X1_clear n s2) fun x3 s4 => zRt x1 s4
def m_X7_taxOn (n : Nat) (v1 : Int32) (s : zS) : Option ((Int32 ⊕ Nat) × zS) :=
  zBd (m_X7_isWithin n v1 (0 : Int32) (1000000000 : Int32) s) fun x1 s2 => zBx (m_X7_checkArgument n x1 s2) fun x3 s4 => zBd (m_X1_tax n v1 s4) fun x5 s6 => zRx x5 s6
def m_X7_carry_j55 (n : Nat) (v1 : Int32) (v2 : Int32) (t0 : Int32) (s : zS) : Option ((Int32 ⊕ Nat) × zS) :=
  zBx (m_X7_checkState n t0 s) fun x1 s2 => zBd (m_X0_add n v1 v2 s2) fun x3 s4 => zBd (m_X0_total n s4) fun x5 s6 => zRx x5 s6
def m_X7_carry_j35 (n : Nat) (v1 : Int32) (v2 : Int32) (t0 : Int32) (s : zS) : Option ((Int32 ⊕ Nat) × zS) :=
  zBx (m_X7_checkArgument n t0 s) fun x7 s8 => zBd (m_X0_size n s8) fun x9 s10 => if (8 : Int32) ≤ x9 then (m_X7_carry_j55  n v1 v2 (0 : Int32) s10) else (m_X7_carry_j55  n v1 v2 (1 : Int32) s10)
def m_X7_carry (n : Nat) (v1 : Int32) (v2 : Int32) (s : zS) : Option ((Int32 ⊕ Nat) × zS) :=
  zBd (m_X0_now n s) fun x12 s13 => zBd (m_X7_isWithin n v1 (1 : Int32) (1000000 : Int32) s13) fun x14 s15 => if x14 = 0 then (m_X7_carry_j35  n v1 v2 (0 : Int32) s15) else (zBd (m_X7_isWithin n v2 x12 (x12 + (20 : Int32)) s15) fun x17 s18 => if x17 = 0 then (m_X7_carry_j35  n v1 v2 (0 : Int32) s18) else (m_X7_carry_j35  n v1 v2 (1 : Int32) s18))
def m_X7_carried (n : Nat)  (s : zS) : Option (Int32 × zS) :=
  zBd (m_X0_total n s) fun x1 s2 => zRt x1 s2
def m_X7_carriedAt (n : Nat) (v1 : Int32) (s : zS) : Option ((Int32 ⊕ Nat) × zS) :=
  if v1 < 0 then (zBx (m_X7_checkPlace n (0 : Int32) s) fun x2 s3 => zBd (m_X0_leftAt n v1 s3) fun x4 s5 => zRx x4 s5) else (zBd (m_X0_size n s) fun x6 s7 => if x6 ≤ v1 then (zBx (m_X7_checkPlace n (0 : Int32) s7) fun x9 s10 => zBd (m_X0_leftAt n v1 s10) fun x11 s12 => zRx x11 s12) else (zBx (m_X7_checkPlace n (1 : Int32) s7) fun x13 s14 => zBd (m_X0_leftAt n v1 s14) fun x15 s16 => zRx x15 s16))
def m_X7_year (n : Nat)  (s : zS) : Option (Int32 × zS) :=
  zBd (m_X0_now n s) fun x1 s2 => zRt x1 s2
def m_X7_closeYear_j12 (n : Nat) : Nat → Int32 → Int32 → zS → Option (Int32 × zS)
  | 0, _, _, _ => none
  | f + 1, v1, v2, s =>
    if (16 : Int32) ≤ v2 then (zBd (m_X0_endYear n s) fun x2 s3 => zRt v1 s3) else (zBd (m_X5_kind n v2 s) fun x4 s5 => if x4 = (7 : Int32) then (zBd (m_X6_of n v2 s5) fun x8 s9 => zBd (m_X0_take n x8 s9) fun x10 s11 => zLt (v1 + x10) fun x12 => zLt (v2 + (1 : Int32)) fun x13 => m_X7_closeYear_j12 n f x12 x13 s11) else (zLt (v2 + (1 : Int32)) fun x7 => m_X7_closeYear_j12 n f v1 x7 s5))
def m_X7_closeYear (n : Nat)  (s : zS) : Option (Int32 × zS) :=
  zBd (m_X6_workOut n (-1 : Int32) s) fun x14 s15 => m_X7_closeYear_j12  n n (0 : Int32) (0 : Int32) s15
def m_X7_addCredit_j45 (n : Nat) (v1 : Int32) (v2 : Int32) (t0 : Int32) (s : zS) : Option ((Int32 ⊕ Nat) × zS) :=
  zBx (m_X7_checkState n t0 s) fun x1 s2 => zBd (m_X2_add n v1 v2 s2) fun x3 s4 => zBd (m_X2_size n s4) fun x5 s6 => zRx (x5 - (1 : Int32)) s6
def m_X7_addCredit_j26 (n : Nat) (v1 : Int32) (v2 : Int32) (t0 : Int32) (s : zS) : Option ((Int32 ⊕ Nat) × zS) :=
  zBx (m_X7_checkArgument n t0 s) fun x7 s8 => zBd (m_X2_size n s8) fun x9 s10 => if (5 : Int32) ≤ x9 then (m_X7_addCredit_j45  n v1 v2 (0 : Int32) s10) else (m_X7_addCredit_j45  n v1 v2 (1 : Int32) s10)
def m_X7_addCredit (n : Nat) (v1 : Int32) (v2 : Int32) (s : zS) : Option ((Int32 ⊕ Nat) × zS) :=
  zBd (m_X7_isWithin n v1 (1 : Int32) (1000000 : Int32) s) fun x12 s13 => if x12 = 0 then (m_X7_addCredit_j26  n v1 v2 (0 : Int32) s13) else (zBd (m_X7_isWithin n v2 (0 : Int32) (1000 : Int32) s13) fun x15 s16 => if x15 = 0 then (m_X7_addCredit_j26  n v1 v2 (0 : Int32) s16) else (m_X7_addCredit_j26  n v1 v2 (1 : Int32) s16))
def m_X7_dropCredit (n : Nat)  (s : zS) : Option ((Int32 ⊕ Nat) × zS) :=
  zBd (m_X2_size n s) fun x1 s2 => if x1 ≤ 0 then (zBx (m_X7_checkState n (0 : Int32) s2) fun x4 s5 => zBd (m_X2_dropLast n s5) fun x6 s7 => zBd (m_X2_size n s7) fun x8 s9 => zRx x8 s9) else (zBx (m_X7_checkState n (1 : Int32) s2) fun x10 s11 => zBd (m_X2_dropLast n s11) fun x12 s13 => zBd (m_X2_size n s13) fun x14 s15 => zRx x14 s15)
def m_X7_creditAt_j24 (n : Nat) (v1 : Int32) (v2 : Int32) (t0 : Int32) (s : zS) : Option ((Int32 ⊕ Nat) × zS) :=
  zBx (m_X7_checkPlace n t0 s) fun x1 s2 => zBd (m_X6_workOut n (-1 : Int32) s2) fun x3 s4 => zBd (m_X6_of n v1 s4) fun x5 s6 => zBd (m_X2_findBest n x5 s6) fun x7 s8 => zBd (m_X2_bestAt n v2 s8) fun x9 s10 => zRx x9 s10
def m_X7_creditAt (n : Nat) (v1 : Int32) (v2 : Int32) (s : zS) : Option ((Int32 ⊕ Nat) × zS) :=
  zBx (m_X7_checkLine n v1 s) fun x11 s12 => if v2 < 0 then (m_X7_creditAt_j24  n v1 v2 (0 : Int32) s12) else (zBd (m_X2_size n s12) fun x14 s15 => if x14 ≤ v2 then (m_X7_creditAt_j24  n v1 v2 (0 : Int32) s15) else (m_X7_creditAt_j24  n v1 v2 (1 : Int32) s15))
def m_X7_afterCredits (n : Nat) (v1 : Int32) (s : zS) : Option ((Int32 ⊕ Nat) × zS) :=
  zBx (m_X7_checkLine n v1 s) fun x1 s2 => zBd (m_X6_workOut n (-1 : Int32) s2) fun x3 s4 => zBd (m_X6_of n v1 s4) fun x5 s6 => zBd (m_X2_total n s6) fun x7 s8 => zRx (x5 - (if x7 < x5 then x7 else x5)) s8
def m_X7_bestSum (n : Nat) (v1 : Int32) (s : zS) : Option ((Int32 ⊕ Nat) × zS) :=
  zBx (m_X7_checkLine n v1 s) fun x1 s2 => zBd (m_X6_workOut n (-1 : Int32) s2) fun x3 s4 => zBd (m_X6_of n v1 s4) fun x5 s6 => zBd (m_X2_findBest n x5 s6) fun x7 s8 => zRx x7 s8
def m_X8_thrown (n : Nat)  (s : zS) : Option (Int32 × zS) :=
  zRt (s 0 23) s
def m_X8_isIn (n : Nat) (v0 : Int32) (v1 : Int32) (v2 : Int32) (s : zS) : Option (Int32 × zS) :=
  if v0 < v1 then (zRt (0 : Int32) s) else (if v2 < v0 then (zRt (0 : Int32) s) else (zRt (1 : Int32) s))
def m_X8_isLine (n : Nat) (v0 : Int32) (s : zS) : Option (Int32 × zS) :=
  zBd (m_X8_isIn n v0 (0 : Int32) (15 : Int32) s) fun x1 s2 => zGd (vp_nar .boolean x1 = x1) (zRt x1 s2)
def m_X8_usesFirst (n : Nat) (v1 : Int32) (s : zS) : Option (Int32 × zS) :=
  zRd (s 1) v1 16 fun x1 => if x1 = 0 then (zRt (0 : Int32) s) else (zRt (1 : Int32) s)
def m_X8_usesSecond_j33 (n : Nat)  (s : zS) : Option (Int32 × zS) :=
  zRt (1 : Int32) s
def m_X8_usesSecond (n : Nat) (v1 : Int32) (s : zS) : Option (Int32 × zS) :=
  zRd (s 1) v1 16 fun x1 => if x1 = (1 : Int32) then (m_X8_usesSecond_j33  n s) else (if x1 = (2 : Int32) then (m_X8_usesSecond_j33  n s) else (if x1 = (4 : Int32) then (m_X8_usesSecond_j33  n s) else (if x1 = (5 : Int32) then (m_X8_usesSecond_j33  n s) else (if x1 = (8 : Int32) then (m_X8_usesSecond_j33  n s) else (zRt (0 : Int32) s)))))
def m_X8_laysNeeds_j93 (rec76 : Int32 → zS → Option (Int32 × zS)) (rec84 : Int32 → Int32 → zS → Option (Int32 × zS)) (n : Nat) : Nat → Int32 → Int32 → Int32 → zS → Option (Int32 × zS)
  | 0, _, _, _, _ => none
  | f + 1, v2, v3, v4, s =>
    if (16 : Int32) ≤ v4 then (zLt (v3 + (1 : Int32)) fun x2 => rec84 v2 x2 s) else (zRd (s 13) v3 16 fun x3 => zRd (s 13) v3 16 fun x4 => if ((x4 >>> (v4 &&& 31)) &&& (1 : Int32)) = (1 : Int32) then (zRd (s 13) v4 16 fun x8 => zWr s 13 v3 16 (x3 ||| x8) fun s9 => zLt (v4 + (1 : Int32)) fun x10 => m_X8_laysNeeds_j93 rec76 rec84 n f v2 v3 x10 s9) else (zWr s 13 v3 16 (x3 ||| (0 : Int32)) fun s6 => zLt (v4 + (1 : Int32)) fun x7 => m_X8_laysNeeds_j93 rec76 rec84 n f v2 v3 x7 s6))
def m_X8_laysNeeds_j84 (rec76 : Int32 → zS → Option (Int32 × zS)) (n : Nat) : Nat → Int32 → Int32 → zS → Option (Int32 × zS)
  | 0, _, _, _ => none
  | f + 1, v2, v3, s =>
    if (16 : Int32) ≤ v3 then (zLt (v2 + (1 : Int32)) fun x12 => rec76 x12 s) else (m_X8_laysNeeds_j93 rec76 (m_X8_laysNeeds_j84 rec76 n f) n n v2 v3 (0 : Int32) s)
def m_X8_laysNeeds_j76 (n : Nat) : Nat → Int32 → zS → Option (Int32 × zS)
  | 0, _, _ => none
  | f + 1, v2, s =>
    if (16 : Int32) ≤ v2 then (zRt 0 s) else (m_X8_laysNeeds_j84 (m_X8_laysNeeds_j76 n f) n n v2 (0 : Int32) s)
def m_X8_laysNeeds_j33 (rec2 : Int32 → Int32 → zS → Option (Int32 × zS)) (n : Nat) (v1 : Int32) (v2 : Int32) (t1 : Int32) (t2 : Int32) (s : zS) : Option (Int32 × zS) :=
  zWr s 13 t1 16 t2 fun s14 => zRd (s14 13) v2 16 fun x15 => zBd (m_X8_usesSecond n v2 s14) fun x16 s17 => if x16 = 0 then (zWr s17 13 v2 16 (x15 ||| (0 : Int32)) fun s19 => zLt (v2 + (1 : Int32)) fun x20 => rec2 v1 x20 s19) else (if v2 = v1 then (zWr s17 13 v2 16 (x15 ||| (0 : Int32)) fun s22 => zLt (v2 + (1 : Int32)) fun x23 => rec2 v1 x23 s22) else (zRd (s17 3) v2 16 fun x24 => zWr s17 13 v2 16 (x15 ||| ((1 : Int32) <<< (x24 &&& 31))) fun s25 => zLt (v2 + (1 : Int32)) fun x26 => rec2 v1 x26 s25))
def m_X8_laysNeeds_j2 (n : Nat) : Nat → Int32 → Int32 → zS → Option (Int32 × zS)
  | 0, _, _, _ => none
  | f + 1, v1, v2, s =>
    if (16 : Int32) ≤ v2 then (m_X8_laysNeeds_j76  n n (0 : Int32) s) else (zBd (m_X8_usesFirst n v2 s) fun x28 s29 => if x28 = 0 then (m_X8_laysNeeds_j33 (m_X8_laysNeeds_j2 n f) n v1 v2 v2 (0 : Int32) s29) else (zRd (s29 2) v2 16 fun x31 => m_X8_laysNeeds_j33 (m_X8_laysNeeds_j2 n f) n v1 v2 v2 ((1 : Int32) <<< (x31 &&& 31)) s29))
def m_X8_laysNeeds (n : Nat) (v1 : Int32) (s : zS) : Option (Int32 × zS) :=
  m_X8_laysNeeds_j2  n n v1 (0 : Int32) s
def m_X8_depends (n : Nat) (v1 : Int32) (v2 : Int32) (s : zS) : Option (Int32 × zS) :=
  zRd (s 13) v1 16 fun x1 => if ((x1 >>> (v2 &&& 31)) &&& (1 : Int32)) = (1 : Int32) then (zRt (1 : Int32) s) else (zRt (0 : Int32) s)
def m_X8_circle_j4 (n : Nat) : Nat → Int32 → Int32 → Int32 → zS → Option (Int32 × zS)
  | 0, _, _, _, _ => none
  | f + 1, v1, v2, v3, s =>
    if (16 : Int32) ≤ v3 then (zRt v2 s) else (zBd (m_X8_depends n v1 v3 s) fun x2 s3 => if x2 = 0 then (zLt (v2 ||| (0 : Int32)) fun x5 => zLt (v3 + (1 : Int32)) fun x6 => m_X8_circle_j4 n f v1 x5 x6 s3) else (zBd (m_X8_depends n v3 v1 s3) fun x7 s8 => if x7 = 0 then (zLt (v2 ||| (0 : Int32)) fun x10 => zLt (v3 + (1 : Int32)) fun x11 => m_X8_circle_j4 n f v1 x10 x11 s8) else (zLt (v2 ||| ((1 : Int32) <<< (v3 &&& 31))) fun x12 => zLt (v3 + (1 : Int32)) fun x13 => m_X8_circle_j4 n f v1 x12 x13 s8)))
def m_X8_circle (n : Nat) (v1 : Int32) (s : zS) : Option (Int32 × zS) :=
  m_X8_circle_j4  n n v1 (0 : Int32) (0 : Int32) s
def m_X8_turned (n : Nat) (v0 : Int32) (s : zS) : Option (Int32 × zS) :=
  zRt (((v0 &&& (1 : Int32)) * (2 : Int32)) + (v0 >>> ((1 : Int32) &&& 31))) s
def m_X8_isFalling_j199 (n : Nat) : Nat → Int32 → Int32 → Int32 → zS → Option (Int32 × zS)
  | 0, _, _, _, _ => none
  | f + 1, v1, v3, v4, s =>
    if (16 : Int32) ≤ v4 then (zGd (vp_nar .boolean v3 = v3) (zRt v3 s)) else (zRd (s 14) v4 16 fun x3 => if x3 = (3 : Int32) then (zLt (v3 &&& (0 : Int32)) fun x5 => zLt (v4 + (1 : Int32)) fun x6 => m_X8_isFalling_j199 n f v1 x5 x6 s) else (if ((v1 >>> (v4 &&& 31)) &&& (1 : Int32)) = (1 : Int32) then (zBd (m_X8_depends n v4 v4 s) fun x10 s11 => if x10 = 0 then (zLt (v3 &&& (1 : Int32)) fun x15 => zLt (v4 + (1 : Int32)) fun x16 => m_X8_isFalling_j199 n f v1 x15 x16 s11) else (zLt (v3 &&& (0 : Int32)) fun x13 => zLt (v4 + (1 : Int32)) fun x14 => m_X8_isFalling_j199 n f v1 x13 x14 s11)) else (zLt (v3 &&& (1 : Int32)) fun x8 => zLt (v4 + (1 : Int32)) fun x9 => m_X8_isFalling_j199 n f v1 x8 x9 s)))
def m_X8_isFalling_j161 (rec32 : Int32 → Int32 → Int32 → zS → Option (Int32 × zS)) (rec41 : Int32 → Int32 → Int32 → Int32 → zS → Option (Int32 × zS)) (n : Nat) (v1 : Int32) (v2 : Int32) (v3 : Int32) (v4 : Int32) (t1 : Int32) (t2 : Int32) (t3 : Int32) (s : zS) : Option (Int32 × zS) :=
  zWr s 14 t1 16 (t2 ||| t3) fun s17 => zLt (v4 + (1 : Int32)) fun x18 => rec41 v1 v2 v3 x18 s17
def m_X8_isFalling_j97 (rec32 : Int32 → Int32 → Int32 → zS → Option (Int32 × zS)) (rec41 : Int32 → Int32 → Int32 → Int32 → zS → Option (Int32 × zS)) (n : Nat) (v1 : Int32) (v2 : Int32) (v3 : Int32) (v4 : Int32) (t1 : Int32) (t2 : Int32) (t3 : Int32) (s : zS) : Option (Int32 × zS) :=
  zWr s 14 t1 16 (t2 ||| t3) fun s19 => zRd (s19 14) v4 16 fun x20 => zBd (m_X8_usesSecond n v4 s19) fun x21 s22 => if x21 = 0 then (m_X8_isFalling_j161 rec32 rec41 n v1 v2 v3 v4 v4 x20 (0 : Int32) s22) else (zRd (s22 1) v4 16 fun x24 => if x24 = (2 : Int32) then (zRd (s22 3) v4 16 fun x28 => zRd (s22 14) x28 16 fun x29 => zBd (m_X8_turned n x29 s22) fun x30 s31 => m_X8_isFalling_j161 rec32 rec41 n v1 v2 v3 v4 v4 x20 x30 s31) else (zRd (s22 3) v4 16 fun x26 => zRd (s22 14) x26 16 fun x27 => m_X8_isFalling_j161 rec32 rec41 n v1 v2 v3 v4 v4 x20 x27 s22))
def m_X8_isFalling_j41 (rec32 : Int32 → Int32 → Int32 → zS → Option (Int32 × zS)) (n : Nat) : Nat → Int32 → Int32 → Int32 → Int32 → zS → Option (Int32 × zS)
  | 0, _, _, _, _, _ => none
  | f + 1, v1, v2, v3, v4, s =>
    if (16 : Int32) ≤ v4 then (zLt (v3 + (1 : Int32)) fun x33 => rec32 v1 v2 x33 s) else (if ((v1 >>> (v4 &&& 31)) &&& (1 : Int32)) = (1 : Int32) then (if v4 = v2 then (zLt (v4 + (1 : Int32)) fun x37 => m_X8_isFalling_j41 rec32 n f v1 v2 v3 x37 s) else (zRd (s 14) v4 16 fun x38 => zBd (m_X8_usesFirst n v4 s) fun x39 s40 => if x39 = 0 then (m_X8_isFalling_j97 rec32 (m_X8_isFalling_j41 rec32 n f) n v1 v2 v3 v4 v4 x38 (0 : Int32) s40) else (zRd (s40 2) v4 16 fun x42 => zRd (s40 14) x42 16 fun x43 => m_X8_isFalling_j97 rec32 (m_X8_isFalling_j41 rec32 n f) n v1 v2 v3 v4 v4 x38 x43 s40))) else (zLt (v4 + (1 : Int32)) fun x35 => m_X8_isFalling_j41 rec32 n f v1 v2 v3 x35 s))
def m_X8_isFalling_j32 (n : Nat) : Nat → Int32 → Int32 → Int32 → zS → Option (Int32 × zS)
  | 0, _, _, _, _ => none
  | f + 1, v1, v2, v3, s =>
    if (16 : Int32) ≤ v3 then (zRd (s 3) v2 16 fun x45 => zRd (s 14) x45 16 fun x46 => if x46 = (2 : Int32) then (m_X8_isFalling_j199  n n v1 (1 : Int32) (0 : Int32) s) else (m_X8_isFalling_j199  n n v1 (0 : Int32) (0 : Int32) s)) else (m_X8_isFalling_j41 (m_X8_isFalling_j32 n f) n n v1 v2 v3 (0 : Int32) s)
def m_X8_isFalling_j2 (n : Nat) : Nat → Int32 → Int32 → Int32 → zS → Option (Int32 × zS)
  | 0, _, _, _, _ => none
  | f + 1, v1, v2, v3, s =>
    if (16 : Int32) ≤ v3 then (m_X8_isFalling_j32  n n v1 v2 (0 : Int32) s) else (if v3 = v2 then (zWr s 14 v3 16 (1 : Int32) fun s52 => zLt (v3 + (1 : Int32)) fun x53 => m_X8_isFalling_j2 n f v1 v2 x53 s52) else (zWr s 14 v3 16 (0 : Int32) fun s50 => zLt (v3 + (1 : Int32)) fun x51 => m_X8_isFalling_j2 n f v1 v2 x51 s50))
def m_X8_isFalling (n : Nat) (v1 : Int32) (v2 : Int32) (s : zS) : Option (Int32 × zS) :=
  m_X8_isFalling_j2  n n v1 v2 (0 : Int32) s
def m_X8_isAllowed_j136 (rec4 : Int32 → Int32 → zS → Option (Int32 × zS)) (n : Nat) (v2 : Int32) (v3 : Int32) (v4 : Int32) (v5 : Int32) (t0 : Int32) (t1 : Int32) (s : zS) : Option (Int32 × zS) :=
  zLt (t0 &&& t1) fun x1 => zBd (m_X8_laysNeeds n v5 s) fun x2 s3 => if v4 = (1 : Int32) then (zBd (m_X8_isFalling n v3 v5 s3) fun x7 s8 => if x7 = 0 then (zLt (x1 &&& (0 : Int32)) fun x10 => zLt (v2 + (1 : Int32)) fun x11 => rec4 x10 x11 s8) else (zLt (x1 &&& (1 : Int32)) fun x12 => zLt (v2 + (1 : Int32)) fun x13 => rec4 x12 x13 s8)) else (zLt (x1 &&& (0 : Int32)) fun x5 => zLt (v2 + (1 : Int32)) fun x6 => rec4 x5 x6 s3)
def m_X8_isAllowed_j87 (rec4 : Int32 → Int32 → zS → Option (Int32 × zS)) (rec39 : Int32 → Int32 → Int32 → Int32 → Int32 → Int32 → zS → Option (Int32 × zS)) (n : Nat) (v1 : Int32) (v2 : Int32) (v3 : Int32) (v5 : Int32) (v6 : Int32) (v7 : Int32) (t0 : Int32) (t1 : Int32) (s : zS) : Option (Int32 × zS) :=
  zLt (t0 + t1) fun x14 => if v7 = 0 then (zLt (v6 + (1 : Int32)) fun x16 => rec39 v1 v2 v3 x14 v5 x16 s) else (zLt (v6 + (1 : Int32)) fun x17 => rec39 v1 v2 v3 x14 v6 x17 s)
def m_X8_isAllowed_j73 (rec4 : Int32 → Int32 → zS → Option (Int32 × zS)) (rec39 : Int32 → Int32 → Int32 → Int32 → Int32 → Int32 → zS → Option (Int32 × zS)) (n : Nat) (v1 : Int32) (v2 : Int32) (v3 : Int32) (v4 : Int32) (v5 : Int32) (v6 : Int32) (t0 : Int32) (s : zS) : Option (Int32 × zS) :=
  if t0 = 0 then (m_X8_isAllowed_j87 rec4 rec39 n v1 v2 v3 v5 v6 t0 v4 (0 : Int32) s) else (m_X8_isAllowed_j87 rec4 rec39 n v1 v2 v3 v5 v6 t0 v4 (1 : Int32) s)
def m_X8_isAllowed_j39 (rec4 : Int32 → Int32 → zS → Option (Int32 × zS)) (n : Nat) : Nat → Int32 → Int32 → Int32 → Int32 → Int32 → Int32 → zS → Option (Int32 × zS)
  | 0, _, _, _, _, _, _, _ => none
  | f + 1, v1, v2, v3, v4, v5, v6, s =>
    if (16 : Int32) ≤ v6 then (if v4 = (1 : Int32) then (zRd (s 2) v5 16 fun x21 => if ((v3 >>> (x21 &&& 31)) &&& (1 : Int32)) = 0 then (m_X8_isAllowed_j136 rec4 n v2 v3 v4 v5 v1 (1 : Int32) s) else (m_X8_isAllowed_j136 rec4 n v2 v3 v4 v5 v1 (0 : Int32) s)) else (m_X8_isAllowed_j136 rec4 n v2 v3 v4 v5 v1 (0 : Int32) s)) else (if ((v3 >>> (v6 &&& 31)) &&& (1 : Int32)) = (1 : Int32) then (zRd (s 1) v6 16 fun x24 => if x24 = (8 : Int32) then (m_X8_isAllowed_j73 rec4 (m_X8_isAllowed_j39 rec4 n f) n v1 v2 v3 v4 v5 v6 (1 : Int32) s) else (m_X8_isAllowed_j73 rec4 (m_X8_isAllowed_j39 rec4 n f) n v1 v2 v3 v4 v5 v6 (0 : Int32) s)) else (m_X8_isAllowed_j73 rec4 (m_X8_isAllowed_j39 rec4 n f) n v1 v2 v3 v4 v5 v6 (0 : Int32) s))
def m_X8_isAllowed_j4 (n : Nat) : Nat → Int32 → Int32 → zS → Option (Int32 × zS)
  | 0, _, _, _ => none
  | f + 1, v1, v2, s =>
    if (16 : Int32) ≤ v2 then (zGd (vp_nar .boolean v1 = v1) (zRt v1 s)) else (zBd (m_X8_laysNeeds n (-1 : Int32) s) fun x28 s29 => zBd (m_X8_depends n v2 v2 s29) fun x30 s31 => if x30 = 0 then (zLt (v2 + (1 : Int32)) fun x33 => m_X8_isAllowed_j4 n f v1 x33 s31) else (zBd (m_X8_circle n v2 s31) fun x34 s35 => m_X8_isAllowed_j39 (m_X8_isAllowed_j4 n f) n n v1 v2 x34 (0 : Int32) (0 : Int32) (0 : Int32) s35))
def m_X8_isAllowed (n : Nat)  (s : zS) : Option (Int32 × zS) :=
  m_X8_isAllowed_j4  n n (1 : Int32) (0 : Int32) s
def m_X8_define_j122 (n : Nat) (v1 : Int32) (v2 : Int32) (v3 : Int32) (v4 : Int32) (t1 : Int32) (s : zS) : Option (Int32 × zS) :=
  zLt (zU s 0 23 t1) fun s1 => if (s1 0 23) ≤ 0 then (zRd (s1 1) v1 16 fun x3 => zRd (s1 2) v1 16 fun x4 => zRd (s1 3) v1 16 fun x5 => zWr s1 1 v1 16 v2 fun s6 => zWr s6 2 v1 16 v3 fun s7 => zWr s7 3 v1 16 v4 fun s8 => zBd (m_X8_isAllowed n s8) fun x9 s10 => if x9 = 0 then (zWr s10 1 v1 16 x3 fun s12 => zWr s12 2 v1 16 x4 fun s13 => zWr s13 3 v1 16 x5 fun s14 => zLt (zU s14 0 23 (3 : Int32)) fun s15 => zRt 0 s15) else (zRt 0 s10)) else (zRt 0 s1)
def m_X8_define_j83 (n : Nat) (v1 : Int32) (v2 : Int32) (v3 : Int32) (v4 : Int32) (v6 : Int32) (t0 : Int32) (s : zS) : Option (Int32 × zS) :=
  if t0 = 0 then (m_X8_define_j122  n v1 v2 v3 v4 (1 : Int32) s) else (if v6 = 0 then (m_X8_define_j122  n v1 v2 v3 v4 (2 : Int32) s) else (if v2 = (3 : Int32) then (zBd (m_X8_isIn n v4 (0 : Int32) (1000 : Int32) s) fun x19 s20 => if x19 = 0 then (m_X8_define_j122  n v1 v2 v3 v4 (2 : Int32) s20) else (m_X8_define_j122  n v1 v2 v3 v4 (0 : Int32) s20)) else (m_X8_define_j122  n v1 v2 v3 v4 (0 : Int32) s)))
def m_X8_define_j65 (n : Nat) (v1 : Int32) (v2 : Int32) (v3 : Int32) (v4 : Int32) (v5 : Int32) (v6 : Int32) (s : zS) : Option (Int32 × zS) :=
  if v5 = 0 then (m_X8_define_j83  n v1 v2 v3 v4 v6 (1 : Int32) s) else (zBd (m_X8_isLine n v4 s) fun x23 s24 => if x23 = 0 then (m_X8_define_j83  n v1 v2 v3 v4 v6 (0 : Int32) s24) else (m_X8_define_j83  n v1 v2 v3 v4 v6 (1 : Int32) s24))
def m_X8_define_j31 (n : Nat) (v1 : Int32) (v2 : Int32) (v3 : Int32) (v4 : Int32) (t0 : Int32) (s : zS) : Option (Int32 × zS) :=
  zBd (m_X8_isIn n v2 (0 : Int32) (8 : Int32) s) fun x26 s27 => zBd (m_X8_isLine n v1 s27) fun x28 s29 => if x28 = 0 then (m_X8_define_j83  n v1 v2 v3 v4 x26 (0 : Int32) s29) else (if x26 = 0 then (m_X8_define_j65  n v1 v2 v3 v4 t0 x26 s29) else (if v2 = 0 then (m_X8_define_j65  n v1 v2 v3 v4 t0 x26 s29) else (zBd (m_X8_isLine n v3 s29) fun x33 s34 => if x33 = 0 then (m_X8_define_j83  n v1 v2 v3 v4 x26 (0 : Int32) s34) else (m_X8_define_j65  n v1 v2 v3 v4 t0 x26 s34))))
def m_X8_define_j26 (n : Nat) (v1 : Int32) (v2 : Int32) (v3 : Int32) (v4 : Int32) (s : zS) : Option (Int32 × zS) :=
  m_X8_define_j31  n v1 v2 v3 v4 (1 : Int32) s
def m_X8_define (n : Nat) (v1 : Int32) (v2 : Int32) (v3 : Int32) (v4 : Int32) (s : zS) : Option (Int32 × zS) :=
  if v2 = (1 : Int32) then (m_X8_define_j26  n v1 v2 v3 v4 s) else (if v2 = (2 : Int32) then (m_X8_define_j26  n v1 v2 v3 v4 s) else (if v2 = (4 : Int32) then (m_X8_define_j26  n v1 v2 v3 v4 s) else (if v2 = (5 : Int32) then (m_X8_define_j26  n v1 v2 v3 v4 s) else (if v2 = (8 : Int32) then (m_X8_define_j26  n v1 v2 v3 v4 s) else (m_X8_define_j31  n v1 v2 v3 v4 (0 : Int32) s)))))
def m_X8_answer_j27 (n : Nat) (v1 : Int32) (v2 : Int32) (t1 : Int32) (s : zS) : Option (Int32 × zS) :=
  zLt (zU s 0 23 t1) fun s1 => if (s1 0 23) ≤ 0 then (zRd (s1 4) v1 16 fun x3 => zWr s1 4 v1 16 v2 fun s4 => zRt x3 s4) else (zRt (0 : Int32) s1)
def m_X8_answer (n : Nat) (v1 : Int32) (v2 : Int32) (s : zS) : Option (Int32 × zS) :=
  zBd (m_X8_isLine n v1 s) fun x5 s6 => if x5 = 0 then (m_X8_answer_j27  n v1 v2 (1 : Int32) s6) else (zBd (m_X8_isIn n v2 (0 : Int32) (1000000 : Int32) s6) fun x8 s9 => if x8 = 0 then (m_X8_answer_j27  n v1 v2 (2 : Int32) s9) else (m_X8_answer_j27  n v1 v2 (0 : Int32) s9))
def m_X8_kindOf_j13 (n : Nat) (v1 : Int32) (t1 : Int32) (s : zS) : Option (Int32 × zS) :=
  zLt (zU s 0 23 t1) fun s1 => if (s1 0 23) ≤ 0 then (zRd (s1 1) v1 16 fun x3 => zRt x3 s1) else (zRt (0 : Int32) s1)
def m_X8_kindOf (n : Nat) (v1 : Int32) (s : zS) : Option (Int32 × zS) :=
  zBd (m_X8_isLine n v1 s) fun x4 s5 => if x4 = 0 then (m_X8_kindOf_j13  n v1 (1 : Int32) s5) else (m_X8_kindOf_j13  n v1 (0 : Int32) s5)
def m_X8_taxed_j115 (rec4 : Int32 → Int32 → Int32 → zS → Option (Int32 × zS)) (n : Nat) (v1 : Int32) (v2 : Int32) (v3 : Int32) (t0 : Int64) (s : zS) : Option (Int32 × zS) :=
  zRd (s 6) v3 5 fun x1 => zLt (v2 + (Int64.toInt32 ((t0 * (Int32.toInt64 x1)) / (1000 : Int64)))) fun x2 => zLt (v3 + (1 : Int32)) fun x3 => rec4 v1 x2 x3 s
def m_X8_taxed_j88 (rec4 : Int32 → Int32 → Int32 → zS → Option (Int32 × zS)) (n : Nat) (v1 : Int32) (v2 : Int32) (v3 : Int32) (t0 : Int32) (s : zS) : Option (Int32 × zS) :=
  zRd (s 5) v3 5 fun x4 => if t0 ≤ x4 then (m_X8_taxed_j115 rec4 n v1 v2 v3 (0 : Int64) s) else (zRd (s 5) v3 5 fun x6 => m_X8_taxed_j115 rec4 n v1 v2 v3 (Int32.toInt64 (t0 - x6)) s)
def m_X8_taxed_j19 (rec4 : Int32 → Int32 → Int32 → zS → Option (Int32 × zS)) (n : Nat) : Nat → Int32 → Int32 → Int32 → Int32 → Int32 → zS → Option (Int32 × zS)
  | 0, _, _, _, _, _, _ => none
  | f + 1, v1, v2, v3, v4, v5, s =>
    if (s 0 4) ≤ v5 then (if v4 ≤ v1 then (m_X8_taxed_j88 rec4 n v1 v2 v3 v4 s) else (m_X8_taxed_j88 rec4 n v1 v2 v3 v1 s)) else (zRd (s 5) v5 5 fun x9 => zRd (s 5) v3 5 fun x10 => if x9 ≤ x10 then (zLt (v5 + (1 : Int32)) fun x12 => m_X8_taxed_j19 rec4 n f v1 v2 v3 v4 x12 s) else (zRd (s 5) v5 5 fun x13 => if v4 ≤ x13 then (zLt (v5 + (1 : Int32)) fun x15 => m_X8_taxed_j19 rec4 n f v1 v2 v3 v4 x15 s) else (zRd (s 5) v5 5 fun x16 => zLt (v5 + (1 : Int32)) fun x17 => m_X8_taxed_j19 rec4 n f v1 v2 v3 x16 x17 s)))
def m_X8_taxed_j4 (n : Nat) : Nat → Int32 → Int32 → Int32 → zS → Option (Int32 × zS)
  | 0, _, _, _, _ => none
  | f + 1, v1, v2, v3, s =>
    if (s 0 4) ≤ v3 then (zRt v2 s) else (m_X8_taxed_j19 (m_X8_taxed_j4 n f) n n v1 v2 v3 (1000000000 : Int32) (0 : Int32) s)
def m_X8_taxed (n : Nat) (v1 : Int32) (s : zS) : Option (Int32 × zS) :=
  m_X8_taxed_j4  n n v1 (0 : Int32) (0 : Int32) s
def m_X8_all_j4 (n : Nat) : Nat → Int32 → Int32 → zS → Option (Int32 × zS)
  | 0, _, _, _ => none
  | f + 1, v1, v2, s =>
    if (s 0 8) ≤ v2 then (zRt v1 s) else (zRd (s 7) v2 8 fun x2 => zLt (v1 + x2) fun x3 => zLt (v2 + (1 : Int32)) fun x4 => m_X8_all_j4 n f x3 x4 s)
def m_X8_all (n : Nat)  (s : zS) : Option (Int32 × zS) :=
  m_X8_all_j4  n n (0 : Int32) (0 : Int32) s
def m_X8_works_j190 (n : Nat) (v4 : Int32) (t0 : Int32) (s : zS) : Option (Int32 × zS) :=
  if t0 ≤ v4 then (zRt t0 s) else (zRt v4 s)
def m_X8_works_j59 (n : Nat) (v1 : Int32) (v3 : Int32) (v4 : Int32) (t0 : Int32) (s : zS) : Option (Int32 × zS) :=
  if v3 = 0 then (zRd (s 4) v1 16 fun x17 => zRt x17 s) else (if v3 = (1 : Int32) then (if v4 ≤ ((1000000000 : Int32) - t0) then (zRt (v4 + t0) s) else (zRt (1000000000 : Int32) s)) else (if v3 = (2 : Int32) then (if v4 ≤ t0 then (zRt (0 : Int32) s) else (zRt (v4 - t0) s)) else (if v3 = (3 : Int32) then (zRd (s 3) v1 16 fun x14 => zRt (Int64.toInt32 (((Int32.toInt64 v4) * (Int32.toInt64 x14)) / (1000 : Int64))) s) else (if v3 = (5 : Int32) then (if v4 ≤ t0 then (zRt t0 s) else (zRt v4 s)) else (if v3 = (6 : Int32) then (zBd (m_X8_taxed n v4 s) fun x11 s12 => zRt x11 s12) else (if v3 = (7 : Int32) then (zBd (m_X8_all n s) fun x9 s10 => m_X8_works_j190  n v4 x9 s10) else (m_X8_works_j190  n v4 t0 s)))))))
def m_X8_works_j32 (n : Nat) (v1 : Int32) (v2 : Int32) (v3 : Int32) (t0 : Int32) (s : zS) : Option (Int32 × zS) :=
  zBd (m_X8_usesSecond n v1 s) fun x18 s19 => if x18 = 0 then (m_X8_works_j59  n v1 v3 t0 (0 : Int32) s19) else (zRd (s19 3) v1 16 fun x21 => zRd (s19 11) (v2 + x21) 32 fun x22 => m_X8_works_j59  n v1 v3 t0 x22 s19)
def m_X8_works (n : Nat) (v1 : Int32) (v2 : Int32) (s : zS) : Option (Int32 × zS) :=
  zRd (s 1) v1 16 fun x23 => zBd (m_X8_usesFirst n v1 s) fun x24 s25 => if x24 = 0 then (m_X8_works_j32  n v1 v2 x23 (0 : Int32) s25) else (zRd (s25 2) v1 16 fun x27 => zRd (s25 11) (v2 + x27) 32 fun x28 => m_X8_works_j32  n v1 v2 x23 x28 s25)
def m_X8_passes_j78 (rec2 : Int32 → Int32 → zS → Option (Int32 × zS)) (rec10 : Int32 → Int32 → Int32 → zS → Option (Int32 × zS)) (n : Nat) (v1 : Int32) (v2 : Int32) (v3 : Int32) (t0 : Int32) (t1 : Int32) (s : zS) : Option (Int32 × zS) :=
  zLt (t0 &&& t1) fun x1 => if x1 = 0 then (zLt (v3 + (1 : Int32)) fun x3 => rec10 v1 v2 x3 s) else (zRd (s 12) (v1 + v3) 32 fun x4 => if x4 = 0 then (zBd (m_X8_works n v3 v1 s) fun x7 s8 => zWr s8 11 (v1 + v3) 32 x7 fun s9 => zWr s9 12 (v1 + v3) 32 (vp_nar .boolean (1 : Int32)) fun s10 => zLt (v3 + (1 : Int32)) fun x11 => rec10 v1 v2 x11 s10) else (zLt (v3 + (1 : Int32)) fun x6 => rec10 v1 v2 x6 s))
def m_X8_passes_j45 (rec2 : Int32 → Int32 → zS → Option (Int32 × zS)) (rec10 : Int32 → Int32 → Int32 → zS → Option (Int32 × zS)) (n : Nat) (v1 : Int32) (v2 : Int32) (v3 : Int32) (t0 : Int32) (s : zS) : Option (Int32 × zS) :=
  zBd (m_X8_usesSecond n v3 s) fun x12 s13 => if x12 = 0 then (m_X8_passes_j78 rec2 rec10 n v1 v2 v3 t0 (1 : Int32) s13) else (zRd (s13 3) v3 16 fun x15 => zRd (s13 12) (v1 + x15) 32 fun x16 => if x16 = 0 then (m_X8_passes_j78 rec2 rec10 n v1 v2 v3 t0 (0 : Int32) s13) else (m_X8_passes_j78 rec2 rec10 n v1 v2 v3 t0 (1 : Int32) s13))
def m_X8_passes_j10 (rec2 : Int32 → Int32 → zS → Option (Int32 × zS)) (n : Nat) : Nat → Int32 → Int32 → Int32 → zS → Option (Int32 × zS)
  | 0, _, _, _, _ => none
  | f + 1, v1, v2, v3, s =>
    if (16 : Int32) ≤ v3 then (zLt (v2 + (1 : Int32)) fun x19 => rec2 v1 x19 s) else (zBd (m_X8_usesFirst n v3 s) fun x20 s21 => if x20 = 0 then (m_X8_passes_j45 rec2 (m_X8_passes_j10 rec2 n f) n v1 v2 v3 (1 : Int32) s21) else (zRd (s21 2) v3 16 fun x23 => zRd (s21 12) (v1 + x23) 32 fun x24 => if x24 = 0 then (m_X8_passes_j45 rec2 (m_X8_passes_j10 rec2 n f) n v1 v2 v3 (0 : Int32) s21) else (m_X8_passes_j45 rec2 (m_X8_passes_j10 rec2 n f) n v1 v2 v3 (1 : Int32) s21)))
def m_X8_passes_j2 (n : Nat) : Nat → Int32 → Int32 → zS → Option (Int32 × zS)
  | 0, _, _, _ => none
  | f + 1, v1, v2, s =>
    if (16 : Int32) ≤ v2 then (zRt 0 s) else (m_X8_passes_j10 (m_X8_passes_j2 n f) n n v1 v2 (0 : Int32) s)
def m_X8_passes (n : Nat) (v1 : Int32) (s : zS) : Option (Int32 × zS) :=
  m_X8_passes_j2  n n v1 (0 : Int32) s
def m_X8_tries_j2 (n : Nat) : Nat → Int32 → Int32 → Int32 → zS → Option (Int32 × zS)
  | 0, _, _, _, _ => none
  | f + 1, v1, v2, v3, s =>
    if (16 : Int32) ≤ v3 then (zWr s 11 ((16 : Int32) + v1) 32 v2 fun s2 => zWr s2 12 ((16 : Int32) + v1) 32 (vp_nar .boolean (1 : Int32)) fun s3 => zBd (m_X8_passes n (16 : Int32) s3) fun x4 s5 => zRd (s5 3) v1 16 fun x6 => zRd (s5 12) ((16 : Int32) + x6) 32 fun x7 => zGd (vp_nar .boolean x7 = x7) (zRt x7 s5)) else (zRd (s 11) v3 32 fun x9 => zWr s 11 ((16 : Int32) + v3) 32 x9 fun s10 => zRd (s10 12) v3 32 fun x11 => zWr s10 12 ((16 : Int32) + v3) 32 (vp_nar .boolean x11) fun s12 => zLt (v3 + (1 : Int32)) fun x13 => m_X8_tries_j2 n f v1 v2 x13 s12)
def m_X8_tries (n : Nat) (v1 : Int32) (v2 : Int32) (s : zS) : Option (Int32 × zS) :=
  m_X8_tries_j2  n n v1 v2 (0 : Int32) s
def m_X8_halves_j14 (n : Nat) : Nat → Int32 → Int32 → Int32 → zS → Option (Int32 × zS)
  | 0, _, _, _, _ => none
  | f + 1, v1, v2, v3, s =>
    if v3 ≤ v2 then (zWr s 11 v1 32 v2 fun s2 => zWr s2 12 v1 32 (vp_nar .boolean (1 : Int32)) fun s3 => zRt 0 s3) else (zLt (v3 - ((v3 - v2) / (2 : Int32))) fun x4 => zBd (m_X8_tries n v1 x4 s) fun x5 s6 => zRd (s6 3) v1 16 fun x7 => zRd (s6 11) ((16 : Int32) + x7) 32 fun x8 => if x8 < x4 then (zLt (x4 - (1 : Int32)) fun x10 => m_X8_halves_j14 n f v1 v2 x10 s6) else (m_X8_halves_j14 n f v1 x4 v3 s6))
def m_X8_halves (n : Nat) (v1 : Int32) (s : zS) : Option (Int32 × zS) :=
  zRd (s 2) v1 16 fun x11 => zRd (s 11) x11 32 fun x12 => m_X8_halves_j14  n n v1 (0 : Int32) x12 s
def m_X8_solves_j127 (rec53 : Int32 → zS → Option (Int32 × zS)) (rec62 : Int32 → Int32 → zS → Option (Int32 × zS)) (n : Nat) (v3 : Int32) (v4 : Int32) (s : zS) : Option (Int32 × zS) :=
  zLt (v4 + (1 : Int32)) fun x1 => rec62 v3 x1 s
def m_X8_solves_j62 (rec53 : Int32 → zS → Option (Int32 × zS)) (n : Nat) : Nat → Int32 → Int32 → zS → Option (Int32 × zS)
  | 0, _, _, _ => none
  | f + 1, v3, v4, s =>
    if (16 : Int32) ≤ v4 then (zLt (v3 + (1 : Int32)) fun x3 => rec53 x3 s) else (zRd (s 1) v4 16 fun x4 => if x4 = (8 : Int32) then (zRd (s 12) v4 32 fun x6 => if x6 = 0 then (zRd (s 2) v4 16 fun x8 => zRd (s 12) x8 32 fun x9 => if x9 = 0 then (m_X8_solves_j127 rec53 (m_X8_solves_j62 rec53 n f) n v3 v4 s) else (zBd (m_X8_tries n v4 (0 : Int32) s) fun x11 s12 => if x11 = 0 then (m_X8_solves_j127 rec53 (m_X8_solves_j62 rec53 n f) n v3 v4 s12) else (zBd (m_X8_halves n v4 s12) fun x14 s15 => zBd (m_X8_passes n (0 : Int32) s15) fun x16 s17 => m_X8_solves_j127 rec53 (m_X8_solves_j62 rec53 n f) n v3 v4 s17))) else (m_X8_solves_j127 rec53 (m_X8_solves_j62 rec53 n f) n v3 v4 s)) else (m_X8_solves_j127 rec53 (m_X8_solves_j62 rec53 n f) n v3 v4 s))
def m_X8_solves_j53 (n : Nat) : Nat → Int32 → zS → Option (Int32 × zS)
  | 0, _, _ => none
  | f + 1, v3, s =>
    if (16 : Int32) ≤ v3 then (zRt 0 s) else (m_X8_solves_j62 (m_X8_solves_j53 n f) n n v3 (0 : Int32) s)
def m_X8_solves_j23 (rec2 : Int32 → Int32 → Int32 → zS → Option (Int32 × zS)) (n : Nat) (v1 : Int32) (v2 : Int32) (v3 : Int32) (t1 : Int32) (t2 : Int32) (s : zS) : Option (Int32 × zS) :=
  zWr s 12 t1 32 (vp_nar .boolean t2) fun s19 => if v3 = v1 then (zWr s19 11 v3 32 v2 fun s23 => zLt (v3 + (1 : Int32)) fun x24 => rec2 v1 v2 x24 s23) else (zWr s19 11 v3 32 (0 : Int32) fun s21 => zLt (v3 + (1 : Int32)) fun x22 => rec2 v1 v2 x22 s21)
def m_X8_solves_j2 (n : Nat) : Nat → Int32 → Int32 → Int32 → zS → Option (Int32 × zS)
  | 0, _, _, _, _ => none
  | f + 1, v1, v2, v3, s =>
    if (16 : Int32) ≤ v3 then (zBd (m_X8_passes n (0 : Int32) s) fun x26 s27 => m_X8_solves_j53  n n (0 : Int32) s27) else (if v3 = v1 then (m_X8_solves_j23 (m_X8_solves_j2 n f) n v1 v2 v3 v3 (1 : Int32) s) else (m_X8_solves_j23 (m_X8_solves_j2 n f) n v1 v2 v3 v3 (0 : Int32) s))
def m_X8_solves (n : Nat) (v1 : Int32) (v2 : Int32) (s : zS) : Option (Int32 × zS) :=
  m_X8_solves_j2  n n v1 v2 (0 : Int32) s
def m_X8_value_j13 (n : Nat) (v1 : Int32) (t1 : Int32) (s : zS) : Option (Int32 × zS) :=
  zLt (zU s 0 23 t1) fun s1 => if (s1 0 23) ≤ 0 then (zBd (m_X8_solves n (-1 : Int32) (0 : Int32) s1) fun x3 s4 => zRd (s4 11) v1 32 fun x5 => zRt x5 s4) else (zRt (0 : Int32) s1)
def m_X8_value (n : Nat) (v1 : Int32) (s : zS) : Option (Int32 × zS) :=
  zBd (m_X8_isLine n v1 s) fun x6 s7 => if x6 = 0 then (m_X8_value_j13  n v1 (1 : Int32) s7) else (m_X8_value_j13  n v1 (0 : Int32) s7)
def m_X8_boundFor_j42 (n : Nat) (v1 : Int32) (v2 : Int32) (t1 : Int32) (s : zS) : Option (Int32 × zS) :=
  zLt (zU s 0 23 t1) fun s1 => if (s1 0 23) ≤ 0 then (zBd (m_X8_solves n v1 v2 s1) fun x3 s4 => zRd (s4 3) v1 16 fun x5 => zRd (s4 11) x5 32 fun x6 => zRt x6 s4) else (zRt (0 : Int32) s1)
def m_X8_boundFor (n : Nat) (v1 : Int32) (v2 : Int32) (s : zS) : Option (Int32 × zS) :=
  zBd (m_X8_isLine n v1 s) fun x7 s8 => if x7 = 0 then (m_X8_boundFor_j42  n v1 v2 (1 : Int32) s8) else (zBd (m_X8_isIn n v2 (0 : Int32) (1000000000 : Int32) s8) fun x10 s11 => if x10 = 0 then (m_X8_boundFor_j42  n v1 v2 (2 : Int32) s11) else (zRd (s11 1) v1 16 fun x13 => if x13 = (8 : Int32) then (m_X8_boundFor_j42  n v1 v2 (0 : Int32) s11) else (m_X8_boundFor_j42  n v1 v2 (3 : Int32) s11)))
def m_X8_dependsOn_j20 (n : Nat) (v1 : Int32) (v2 : Int32) (t1 : Int32) (s : zS) : Option (Int32 × zS) :=
  zLt (zU s 0 23 t1) fun s1 => if (s1 0 23) ≤ 0 then (zBd (m_X8_laysNeeds n (-1 : Int32) s1) fun x3 s4 => zBd (m_X8_depends n v1 v2 s4) fun x5 s6 => zGd (vp_nar .boolean x5 = x5) (zRt x5 s6)) else (zRt (0 : Int32) s1)
def m_X8_dependsOn (n : Nat) (v1 : Int32) (v2 : Int32) (s : zS) : Option (Int32 × zS) :=
  zBd (m_X8_isLine n v1 s) fun x8 s9 => if x8 = 0 then (m_X8_dependsOn_j20  n v1 v2 (1 : Int32) s9) else (zBd (m_X8_isLine n v2 s9) fun x11 s12 => if x11 = 0 then (m_X8_dependsOn_j20  n v1 v2 (1 : Int32) s12) else (m_X8_dependsOn_j20  n v1 v2 (0 : Int32) s12))
def m_X8_influence_j96 (n : Nat) : Nat → Int32 → Int32 → zS → Option (Int32 × zS)
  | 0, _, _, _ => none
  | f + 1, v2, v3, s =>
    if (16 : Int32) ≤ v3 then (zRt v2 s) else (zRd (s 11) v3 32 fun x2 => zRd (s 16) v3 16 fun x3 => if x2 = x3 then (zLt (v2 + (0 : Int32)) fun x5 => zLt (v3 + (1 : Int32)) fun x6 => m_X8_influence_j96 n f x5 x6 s) else (zLt (v2 + (1 : Int32)) fun x7 => zLt (v3 + (1 : Int32)) fun x8 => m_X8_influence_j96 n f x7 x8 s))
def m_X8_influence_j42 (n : Nat) : Nat → Int32 → Int32 → zS → Option (Int32 × zS)
  | 0, _, _, _ => none
  | f + 1, v1, v2, s =>
    if (16 : Int32) ≤ v2 then (zRd (s 4) v1 16 fun x10 => zWr s 4 v1 16 (x10 + (1 : Int32)) fun s11 => zBd (m_X8_solves n (-1 : Int32) (0 : Int32) s11) fun x12 s13 => zRd (s13 4) v1 16 fun x14 => zWr s13 4 v1 16 (x14 - (1 : Int32)) fun s15 => m_X8_influence_j96  n n (0 : Int32) (0 : Int32) s15) else (zRd (s 11) v2 32 fun x16 => zWr s 16 v2 16 x16 fun s17 => zLt (v2 + (1 : Int32)) fun x18 => m_X8_influence_j42 n f v1 x18 s17)
def m_X8_influence_j13 (n : Nat) (v1 : Int32) (t1 : Int32) (s : zS) : Option (Int32 × zS) :=
  zLt (zU s 0 23 t1) fun s19 => if 0 < (s19 0 23) then (zRt (0 : Int32) s19) else (zRd (s19 1) v1 16 fun x21 => if x21 = 0 then (zBd (m_X8_solves n (-1 : Int32) (0 : Int32) s19) fun x23 s24 => m_X8_influence_j42  n n v1 (0 : Int32) s24) else (zRt (0 : Int32) s19))
def m_X8_influence (n : Nat) (v1 : Int32) (s : zS) : Option (Int32 × zS) :=
  zBd (m_X8_isLine n v1 s) fun x25 s26 => if x25 = 0 then (m_X8_influence_j13  n v1 (1 : Int32) s26) else (m_X8_influence_j13  n v1 (0 : Int32) s26)
def m_X8_why_j220 (rec52 : Int32 → Int32 → Int32 → Int32 → zS → Option (Int32 × zS)) (n : Nat) (v2 : Int32) (v3 : Int32) (v4 : Int32) (v5 : Int32) (v6 : Int32) (v10 : Int32) (s : zS) : Option (Int32 × zS) :=
  if v10 = 0 then (zLt (v5 + (1 : Int32)) fun x2 => rec52 v2 v3 v4 x2 s) else (zRd (s 3) v6 16 fun x3 => if ((v4 >>> (x3 &&& 31)) &&& (1 : Int32)) = 0 then (zRd (s 3) v6 16 fun x6 => zWr s 15 v3 16 x6 fun s7 => zRd (s7 3) v6 16 fun x8 => zLt (v4 ||| ((1 : Int32) <<< (x8 &&& 31))) fun x9 => zLt (v3 + (1 : Int32)) fun x10 => zLt (v5 + (1 : Int32)) fun x11 => rec52 v2 x10 x9 x11 s7) else (zLt (v5 + (1 : Int32)) fun x5 => rec52 v2 v3 v4 x5 s))
def m_X8_why_j168 (rec52 : Int32 → Int32 → Int32 → Int32 → zS → Option (Int32 × zS)) (n : Nat) (v2 : Int32) (v3 : Int32) (v4 : Int32) (v5 : Int32) (v6 : Int32) (v9 : Int32) (t0 : Int32) (s : zS) : Option (Int32 × zS) :=
  if v9 = 0 then (m_X8_why_j220 rec52 n v2 v3 v4 v5 v6 t0 s) else (zRd (s 2) v6 16 fun x13 => if ((v4 >>> (x13 &&& 31)) &&& (1 : Int32)) = 0 then (zRd (s 2) v6 16 fun x15 => zWr s 15 v3 16 x15 fun s16 => zRd (s16 2) v6 16 fun x17 => zLt (v4 ||| ((1 : Int32) <<< (x17 &&& 31))) fun x18 => zLt (v3 + (1 : Int32)) fun x19 => m_X8_why_j220 rec52 n v2 x19 x18 v5 v6 t0 s16) else (m_X8_why_j220 rec52 n v2 v3 v4 v5 v6 t0 s))
def m_X8_why_j139 (rec52 : Int32 → Int32 → Int32 → Int32 → zS → Option (Int32 × zS)) (n : Nat) (v2 : Int32) (v3 : Int32) (v4 : Int32) (v5 : Int32) (v6 : Int32) (v7 : Int32) (v8 : Int32) (t0 : Int32) (s : zS) : Option (Int32 × zS) :=
  if v7 = (1 : Int32) then (m_X8_why_j168 rec52 n v2 v3 v4 v5 v6 t0 (1 : Int32) s) else (if v7 = (2 : Int32) then (m_X8_why_j168 rec52 n v2 v3 v4 v5 v6 t0 (1 : Int32) s) else (if v8 = 0 then (m_X8_why_j168 rec52 n v2 v3 v4 v5 v6 t0 (0 : Int32) s) else (if t0 = 0 then (m_X8_why_j168 rec52 n v2 v3 v4 v5 v6 t0 (1 : Int32) s) else (m_X8_why_j168 rec52 n v2 v3 v4 v5 v6 t0 (0 : Int32) s))))
def m_X8_why_j100 (rec52 : Int32 → Int32 → Int32 → Int32 → zS → Option (Int32 × zS)) (n : Nat) (v2 : Int32) (v3 : Int32) (v4 : Int32) (v5 : Int32) (v6 : Int32) (v7 : Int32) (t0 : Int32) (s : zS) : Option (Int32 × zS) :=
  if v7 = 0 then (m_X8_why_j139 rec52 n v2 v3 v4 v5 v6 v7 t0 (0 : Int32) s) else (if t0 = 0 then (m_X8_why_j139 rec52 n v2 v3 v4 v5 v6 v7 t0 (1 : Int32) s) else (zRd (s 2) v6 16 fun x26 => zRd (s 11) x26 32 fun x27 => zRd (s 11) v6 32 fun x28 => if x27 = x28 then (m_X8_why_j139 rec52 n v2 v3 v4 v5 v6 v7 t0 (1 : Int32) s) else (m_X8_why_j139 rec52 n v2 v3 v4 v5 v6 v7 t0 (0 : Int32) s)))
def m_X8_why_j52 (n : Nat) : Nat → Int32 → Int32 → Int32 → Int32 → zS → Option (Int32 × zS)
  | 0, _, _, _, _, _ => none
  | f + 1, v2, v3, v4, v5, s =>
    if v3 ≤ v5 then (if v3 ≤ v2 then (zRt (-1 : Int32) s) else (zRd (s 15) v2 16 fun x32 => zRt x32 s)) else (zRd (s 15) v5 16 fun x33 => zRd (s 1) x33 16 fun x34 => if x34 = (4 : Int32) then (m_X8_why_j100 (m_X8_why_j52 n f) n v2 v3 v4 v5 x33 x34 (1 : Int32) s) else (if x34 = (5 : Int32) then (m_X8_why_j100 (m_X8_why_j52 n f) n v2 v3 v4 v5 x33 x34 (1 : Int32) s) else (if x34 = (8 : Int32) then (m_X8_why_j100 (m_X8_why_j52 n f) n v2 v3 v4 v5 x33 x34 (1 : Int32) s) else (m_X8_why_j100 (m_X8_why_j52 n f) n v2 v3 v4 v5 x33 x34 (0 : Int32) s))))
def m_X8_why_j17 (n : Nat) (v1 : Int32) (v2 : Int32) (t1 : Int32) (s : zS) : Option (Int32 × zS) :=
  zLt (zU s 0 23 t1) fun s38 => if (s38 0 23) ≤ 0 then (zBd (m_X8_solves n (-1 : Int32) (0 : Int32) s38) fun x40 s41 => zWr s41 15 (0 : Int32) 16 v1 fun s42 => zLt ((1 : Int32) <<< (v1 &&& 31)) fun x43 => m_X8_why_j52  n n v2 (1 : Int32) x43 (0 : Int32) s42) else (zRt (0 : Int32) s38)
def m_X8_why (n : Nat) (v1 : Int32) (v2 : Int32) (s : zS) : Option (Int32 × zS) :=
  zBd (m_X8_isLine n v1 s) fun x44 s45 => if x44 = 0 then (m_X8_why_j17  n v1 v2 (1 : Int32) s45) else (if v2 < 0 then (m_X8_why_j17  n v1 v2 (1 : Int32) s45) else (m_X8_why_j17  n v1 v2 (0 : Int32) s45))
def m_X8_bracket_j91 (n : Nat) (v1 : Int32) (v2 : Int32) (v3 : Int32) (t1 : Int32) (s : zS) : Option (Int32 × zS) :=
  zLt (zU s 0 23 t1) fun s1 => if (s1 0 23) ≤ 0 then (zWr s1 5 v3 5 v1 fun s3 => zWr s3 6 v3 5 v2 fun s4 => if v3 = (s4 0 4) then (zLt (zU s4 0 4 ((s4 0 4) + (1 : Int32))) fun s7 => zRt (s7 0 4) s7) else (zLt (zU s4 0 4 ((s4 0 4) + (0 : Int32))) fun s6 => zRt (s6 0 4) s6)) else (zRt (0 : Int32) s1)
def m_X8_bracket_j47 (n : Nat) : Nat → Int32 → Int32 → Int32 → Int32 → zS → Option (Int32 × zS)
  | 0, _, _, _, _, _ => none
  | f + 1, v1, v2, v3, v4, s =>
    if (s 0 4) ≤ v4 then (if v3 = (5 : Int32) then (m_X8_bracket_j91  n v1 v2 v3 (2 : Int32) s) else (m_X8_bracket_j91  n v1 v2 v3 (0 : Int32) s)) else (zRd (s 5) v4 5 fun x10 => if x10 = v1 then (zLt (v4 + (1 : Int32)) fun x13 => m_X8_bracket_j47 n f v1 v2 v4 x13 s) else (zLt (v4 + (1 : Int32)) fun x12 => m_X8_bracket_j47 n f v1 v2 v3 x12 s))
def m_X8_bracket_j27 (n : Nat) (v1 : Int32) (v2 : Int32) (t1 : Int32) (s : zS) : Option (Int32 × zS) :=
  zLt (zU s 0 23 t1) fun s14 => if (s14 0 23) ≤ 0 then (zLt (s14 0 4) fun x16 => m_X8_bracket_j47  n n v1 v2 x16 (0 : Int32) s14) else (zRt (0 : Int32) s14)
def m_X8_bracket (n : Nat) (v1 : Int32) (v2 : Int32) (s : zS) : Option (Int32 × zS) :=
  zBd (m_X8_isIn n v1 (0 : Int32) (1000000 : Int32) s) fun x17 s18 => if x17 = 0 then (m_X8_bracket_j27  n v1 v2 (1 : Int32) s18) else (zBd (m_X8_isIn n v2 (0 : Int32) (1000 : Int32) s18) fun x20 s21 => if x20 = 0 then (m_X8_bracket_j27  n v1 v2 (1 : Int32) s21) else (m_X8_bracket_j27  n v1 v2 (0 : Int32) s21))
def m_X8_dropBrackets (n : Nat)  (s : zS) : Option (Int32 × zS) :=
  zLt (zU s 0 23 (0 : Int32)) fun s1 => zLt (s1 0 4) fun x2 => zLt (zU s1 0 4 (0 : Int32)) fun s3 => zRt x2 s3
def m_X8_taxOn_j16 (n : Nat) (v1 : Int32) (t1 : Int32) (s : zS) : Option (Int32 × zS) :=
  zLt (zU s 0 23 t1) fun s1 => if (s1 0 23) ≤ 0 then (zBd (m_X8_taxed n v1 s1) fun x3 s4 => zRt x3 s4) else (zRt (0 : Int32) s1)
def m_X8_taxOn (n : Nat) (v1 : Int32) (s : zS) : Option (Int32 × zS) :=
  zBd (m_X8_isIn n v1 (0 : Int32) (1000000000 : Int32) s) fun x5 s6 => if x5 = 0 then (m_X8_taxOn_j16  n v1 (1 : Int32) s6) else (m_X8_taxOn_j16  n v1 (0 : Int32) s6)
def m_X8_carry_j129 (n : Nat) (v1 : Int32) (v2 : Int32) (v3 : Int32) (s : zS) : Option (Int32 × zS) :=
  zWr s 7 v3 8 v1 fun s1 => zWr s1 8 v3 8 v2 fun s2 => zLt (zU s2 0 8 ((s2 0 8) + (1 : Int32))) fun s3 => zBd (m_X8_all n s3) fun x4 s5 => zRt x4 s5
def m_X8_carry_j79 (n : Nat) : Nat → Int32 → Int32 → Int32 → zS → Option (Int32 × zS)
  | 0, _, _, _, _ => none
  | f + 1, v1, v2, v3, s =>
    if v3 ≤ 0 then (m_X8_carry_j129  n v1 v2 v3 s) else (zRd (s 8) (v3 - (1 : Int32)) 8 fun x7 => if x7 ≤ v2 then (m_X8_carry_j129  n v1 v2 v3 s) else (zRd (s 7) (v3 - (1 : Int32)) 8 fun x9 => zWr s 7 v3 8 x9 fun s10 => zRd (s10 8) (v3 - (1 : Int32)) 8 fun x11 => zWr s10 8 v3 8 x11 fun s12 => zLt (v3 + (-1 : Int32)) fun x13 => m_X8_carry_j79 n f v1 v2 x13 s12))
def m_X8_carry_j62 (n : Nat) (v1 : Int32) (v2 : Int32) (t1 : Int32) (s : zS) : Option (Int32 × zS) :=
  zLt (zU s 0 23 t1) fun s14 => if (s14 0 23) ≤ 0 then (zLt (s14 0 8) fun x16 => m_X8_carry_j79  n n v1 v2 x16 s14) else (zRt (0 : Int32) s14)
def m_X8_carry_j35 (n : Nat) (v1 : Int32) (v2 : Int32) (t1 : Int32) (s : zS) : Option (Int32 × zS) :=
  zLt (zU s 0 23 t1) fun s17 => if (s17 0 23) ≤ 0 then (if (s17 0 8) = (8 : Int32) then (m_X8_carry_j62  n v1 v2 (2 : Int32) s17) else (m_X8_carry_j62  n v1 v2 (0 : Int32) s17)) else (zRt (0 : Int32) s17)
def m_X8_carry (n : Nat) (v1 : Int32) (v2 : Int32) (s : zS) : Option (Int32 × zS) :=
  zBd (m_X8_isIn n v1 (1 : Int32) (1000000 : Int32) s) fun x20 s21 => if x20 = 0 then (m_X8_carry_j35  n v1 v2 (1 : Int32) s21) else (if v2 < (s21 0 7) then (m_X8_carry_j35  n v1 v2 (1 : Int32) s21) else (if (20 : Int32) < (v2 - (s21 0 7)) then (m_X8_carry_j35  n v1 v2 (1 : Int32) s21) else (m_X8_carry_j35  n v1 v2 (0 : Int32) s21)))
def m_X8_carried (n : Nat)  (s : zS) : Option (Int32 × zS) :=
  zLt (zU s 0 23 (0 : Int32)) fun s1 => zBd (m_X8_all n s1) fun x2 s3 => zRt x2 s3
def m_X8_carriedAt_j20 (n : Nat) (v1 : Int32) (t1 : Int32) (s : zS) : Option (Int32 × zS) :=
  zLt (zU s 0 23 t1) fun s1 => if (s1 0 23) ≤ 0 then (zRd (s1 7) v1 8 fun x3 => zRt x3 s1) else (zRt (0 : Int32) s1)
def m_X8_carriedAt (n : Nat) (v1 : Int32) (s : zS) : Option (Int32 × zS) :=
  zBd (m_X8_isIn n v1 (0 : Int32) ((s 0 8) - (1 : Int32)) s) fun x4 s5 => if x4 = 0 then (m_X8_carriedAt_j20  n v1 (1 : Int32) s5) else (m_X8_carriedAt_j20  n v1 (0 : Int32) s5)
def m_X8_year (n : Nat)  (s : zS) : Option (Int32 × zS) :=
  zLt (zU s 0 23 (0 : Int32)) fun s1 => zRt (s1 0 7) s1
def m_X8_spends_j32 (rec4 : Int32 → Int32 → Int32 → zS → Option (Int32 × zS)) (n : Nat) (v1 : Int32) (v2 : Int32) (v3 : Int32) (t0 : Int32) (s : zS) : Option (Int32 × zS) :=
  zRd (s 7) v3 8 fun x1 => zWr s 7 v3 8 (x1 - t0) fun s2 => zLt (v2 - t0) fun x3 => zLt (v3 + (1 : Int32)) fun x4 => rec4 v1 x3 x4 s2
def m_X8_spends_j4 (n : Nat) : Nat → Int32 → Int32 → Int32 → zS → Option (Int32 × zS)
  | 0, _, _, _, _ => none
  | f + 1, v1, v2, v3, s =>
    if (s 0 8) ≤ v3 then (zRt (v1 - v2) s) else (zRd (s 7) v3 8 fun x6 => if v2 ≤ x6 then (m_X8_spends_j32 (m_X8_spends_j4 n f) n v1 v2 v3 v2 s) else (zRd (s 7) v3 8 fun x8 => m_X8_spends_j32 (m_X8_spends_j4 n f) n v1 v2 v3 x8 s))
def m_X8_spends (n : Nat) (v1 : Int32) (s : zS) : Option (Int32 × zS) :=
  m_X8_spends_j4  n n v1 v1 (0 : Int32) s
def m_X8_closeYear_j59 (n : Nat) : Nat → Int32 → Int32 → Int32 → zS → Option (Int32 × zS)
  | 0, _, _, _, _ => none
  | f + 1, v1, v2, v3, s =>
    if (s 0 8) ≤ v3 then (zLt (zU s 0 8 v2) fun s2 => zLt (zU s2 0 7 ((s2 0 7) + (1 : Int32))) fun s3 => zRt v1 s3) else (zRd (s 7) v3 8 fun x4 => if x4 ≤ 0 then (zLt (v3 + (1 : Int32)) fun x6 => m_X8_closeYear_j59 n f v1 v2 x6 s) else (zRd (s 8) v3 8 fun x7 => if x7 ≤ (s 0 7) then (zLt (v3 + (1 : Int32)) fun x9 => m_X8_closeYear_j59 n f v1 v2 x9 s) else (zRd (s 7) v3 8 fun x10 => zWr s 7 v2 8 x10 fun s11 => zRd (s11 8) v3 8 fun x12 => zWr s11 8 v2 8 x12 fun s13 => zLt (v2 + (1 : Int32)) fun x14 => zLt (v3 + (1 : Int32)) fun x15 => m_X8_closeYear_j59 n f v1 x14 x15 s13)))
def m_X8_closeYear_j15 (n : Nat) : Nat → Int32 → Int32 → zS → Option (Int32 × zS)
  | 0, _, _, _ => none
  | f + 1, v1, v2, s =>
    if (16 : Int32) ≤ v2 then (m_X8_closeYear_j59  n n v1 (0 : Int32) (0 : Int32) s) else (zRd (s 1) v2 16 fun x17 => if x17 = (7 : Int32) then (zRd (s 11) v2 32 fun x21 => zBd (m_X8_spends n x21 s) fun x22 s23 => zLt (v1 + x22) fun x24 => zLt (v2 + (1 : Int32)) fun x25 => m_X8_closeYear_j15 n f x24 x25 s23) else (zLt (v1 + (0 : Int32)) fun x19 => zLt (v2 + (1 : Int32)) fun x20 => m_X8_closeYear_j15 n f x19 x20 s))
def m_X8_closeYear (n : Nat)  (s : zS) : Option (Int32 × zS) :=
  zLt (zU s 0 23 (0 : Int32)) fun s26 => zBd (m_X8_solves n (-1 : Int32) (0 : Int32) s26) fun x27 s28 => m_X8_closeYear_j15  n n (0 : Int32) (0 : Int32) s28
def m_X8_addCredit_j39 (n : Nat) (v1 : Int32) (v2 : Int32) (t1 : Int32) (s : zS) : Option (Int32 × zS) :=
  zLt (zU s 0 23 t1) fun s1 => if (s1 0 23) ≤ 0 then (zWr s1 9 (s1 0 11) 5 v1 fun s3 => zWr s3 10 (s3 0 11) 5 v2 fun s4 => zLt (zU s4 0 11 ((s4 0 11) + (1 : Int32))) fun s5 => zRt ((s5 0 11) - (1 : Int32)) s5) else (zRt (0 : Int32) s1)
def m_X8_addCredit (n : Nat) (v1 : Int32) (v2 : Int32) (s : zS) : Option (Int32 × zS) :=
  zBd (m_X8_isIn n v1 (1 : Int32) (1000000 : Int32) s) fun x6 s7 => if x6 = 0 then (m_X8_addCredit_j39  n v1 v2 (1 : Int32) s7) else (zBd (m_X8_isIn n v2 (0 : Int32) (1000 : Int32) s7) fun x9 s10 => if x9 = 0 then (m_X8_addCredit_j39  n v1 v2 (1 : Int32) s10) else (if (s10 0 11) = (5 : Int32) then (m_X8_addCredit_j39  n v1 v2 (2 : Int32) s10) else (m_X8_addCredit_j39  n v1 v2 (0 : Int32) s10)))
def m_X8_dropCredit_j13 (n : Nat) (t1 : Int32) (s : zS) : Option (Int32 × zS) :=
  zLt (zU s 0 23 t1) fun s1 => if (s1 0 23) ≤ 0 then (zLt (zU s1 0 11 ((s1 0 11) - (1 : Int32))) fun s3 => zRt (s3 0 11) s3) else (zRt (0 : Int32) s1)
def m_X8_dropCredit (n : Nat)  (s : zS) : Option (Int32 × zS) :=
  if (s 0 11) = 0 then (m_X8_dropCredit_j13  n (1 : Int32) s) else (m_X8_dropCredit_j13  n (0 : Int32) s)
def m_X8_comes_j42 (rec7 : Int32 → Int32 → Int32 → zS → Option (Int32 × zS)) (n : Nat) (v2 : Int32) (v3 : Int32) (v4 : Int32) (v5 : Int32) (t0 : Int32) (s : zS) : Option (Int32 × zS) :=
  zLt (v2 - t0) fun x1 => zRd (s 17) v4 5 fun x2 => zRd (s 10) x2 5 fun x3 => zLt (v3 + (t0 + (Int64.toInt32 (((Int32.toInt64 (v5 - t0)) * (Int32.toInt64 x3)) / (1000 : Int64))))) fun x4 => zLt (v4 + (1 : Int32)) fun x5 => rec7 x1 x4 x5 s
def m_X8_comes_j7 (n : Nat) : Nat → Int32 → Int32 → Int32 → zS → Option (Int32 × zS)
  | 0, _, _, _, _ => none
  | f + 1, v2, v3, v4, s =>
    if (s 0 11) ≤ v4 then (zRt v3 s) else (zRd (s 17) v4 5 fun x7 => zRd (s 9) x7 5 fun x8 => if v2 ≤ x8 then (m_X8_comes_j42 (m_X8_comes_j7 n f) n v2 v3 v4 x8 v2 s) else (m_X8_comes_j42 (m_X8_comes_j7 n f) n v2 v3 v4 x8 x8 s))
def m_X8_comes (n : Nat) (v1 : Int32) (s : zS) : Option (Int32 × zS) :=
  m_X8_comes_j7  n n v1 (0 : Int32) (0 : Int32) s
def m_X8_laysOrder_j12 (n : Nat) : Nat → Int32 → Int32 → Int32 → zS → Option (Int32 × zS)
  | 0, _, _, _, _ => none
  | f + 1, v2, v3, v4, s =>
    if v4 < 0 then (if v3 = (((1 : Int32) <<< ((s 0 11) &&& 31)) - (1 : Int32)) then (zRt (1 : Int32) s) else (zRt (0 : Int32) s)) else (zGd (¬ (s 0 11) = 0) (zWr s 17 v4 5 (v2 - v2 / (s 0 11) * (s 0 11)) fun s4 => zGd (¬ (s4 0 11) = 0) (zLt (v2 / (s4 0 11)) fun x6 => zRd (s4 17) v4 5 fun x7 => zLt (v3 ||| ((1 : Int32) <<< (x7 &&& 31))) fun x8 => zLt (v4 + (-1 : Int32)) fun x9 => m_X8_laysOrder_j12 n f x6 x8 x9 s4)))
def m_X8_laysOrder (n : Nat) (v1 : Int32) (s : zS) : Option (Int32 × zS) :=
  zLt ((s 0 11) - (1 : Int32)) fun x10 => m_X8_laysOrder_j12  n n v1 (0 : Int32) x10 s
def m_X8_orders_j69 (rec32 : Int32 → Int32 → Int32 → zS → Option (Int32 × zS)) (n : Nat) : Nat → Int32 → Int32 → Int32 → Int32 → zS → Option (Int32 × zS)
  | 0, _, _, _, _, _ => none
  | f + 1, v1, v2, v3, v4, s =>
    if (s 0 11) ≤ v4 then (zLt (v3 + (1 : Int32)) fun x2 => rec32 v1 v2 x2 s) else (zRd (s 17) v4 5 fun x3 => zWr s 18 v4 5 x3 fun s4 => zLt (v4 + (1 : Int32)) fun x5 => m_X8_orders_j69 rec32 n f v1 v2 v3 x5 s4)
def m_X8_orders_j32 (n : Nat) : Nat → Int32 → Int32 → Int32 → zS → Option (Int32 × zS)
  | 0, _, _, _, _ => none
  | f + 1, v1, v2, v3, s =>
    if v2 ≤ v3 then (zRt 0 s) else (zBd (m_X8_laysOrder n v3 s) fun x7 s8 => if x7 = 0 then (zLt (v3 + (1 : Int32)) fun x10 => m_X8_orders_j32 n f v1 v2 x10 s8) else (zBd (m_X8_comes n v1 s8) fun x11 s12 => if x11 ≤ (s12 0 22) then (zLt (v3 + (1 : Int32)) fun x14 => m_X8_orders_j32 n f v1 v2 x14 s12) else (zBd (m_X8_comes n v1 s12) fun x15 s16 => zLt (zU s16 0 22 x15) fun s17 => m_X8_orders_j69 (m_X8_orders_j32 n f) n n v1 v2 v3 (0 : Int32) s17)))
def m_X8_orders_j4 (n : Nat) : Nat → Int32 → Int32 → Int32 → zS → Option (Int32 × zS)
  | 0, _, _, _, _ => none
  | f + 1, v1, v2, v3, s =>
    if (s 0 11) ≤ v3 then (zLt (zU s 0 22 (-1 : Int32)) fun s19 => m_X8_orders_j32  n n v1 v2 (0 : Int32) s19) else (zLt (v2 * (s 0 11)) fun x20 => zLt (v3 + (1 : Int32)) fun x21 => m_X8_orders_j4 n f v1 x20 x21 s)
def m_X8_orders (n : Nat) (v1 : Int32) (s : zS) : Option (Int32 × zS) :=
  m_X8_orders_j4  n n v1 (1 : Int32) (0 : Int32) s
def m_X8_creditAt_j27 (n : Nat) (v1 : Int32) (v2 : Int32) (t1 : Int32) (s : zS) : Option (Int32 × zS) :=
  zLt (zU s 0 23 t1) fun s1 => if (s1 0 23) ≤ 0 then (zBd (m_X8_solves n (-1 : Int32) (0 : Int32) s1) fun x3 s4 => zRd (s4 11) v1 32 fun x5 => zBd (m_X8_orders n x5 s4) fun x6 s7 => zRd (s7 18) v2 5 fun x8 => zRt x8 s7) else (zRt (0 : Int32) s1)
def m_X8_creditAt (n : Nat) (v1 : Int32) (v2 : Int32) (s : zS) : Option (Int32 × zS) :=
  zBd (m_X8_isLine n v1 s) fun x9 s10 => if x9 = 0 then (m_X8_creditAt_j27  n v1 v2 (1 : Int32) s10) else (zBd (m_X8_isIn n v2 (0 : Int32) ((s10 0 11) - (1 : Int32)) s10) fun x12 s13 => if x12 = 0 then (m_X8_creditAt_j27  n v1 v2 (1 : Int32) s13) else (m_X8_creditAt_j27  n v1 v2 (0 : Int32) s13))
def m_X8_afterCredits_j40 (n : Nat) : Nat → Int32 → Int32 → zS → Option (Int32 × zS)
  | 0, _, _, _ => none
  | f + 1, v2, v3, s =>
    if (s 0 11) ≤ v3 then (zRt v2 s) else (zRd (s 9) v3 5 fun x2 => if v2 ≤ x2 then (zLt (v2 - v2) fun x4 => zLt (v3 + (1 : Int32)) fun x5 => m_X8_afterCredits_j40 n f x4 x5 s) else (zRd (s 9) v3 5 fun x6 => zLt (v2 - x6) fun x7 => zLt (v3 + (1 : Int32)) fun x8 => m_X8_afterCredits_j40 n f x7 x8 s))
def m_X8_afterCredits_j13 (n : Nat) (v1 : Int32) (t1 : Int32) (s : zS) : Option (Int32 × zS) :=
  zLt (zU s 0 23 t1) fun s9 => if (s9 0 23) ≤ 0 then (zBd (m_X8_solves n (-1 : Int32) (0 : Int32) s9) fun x11 s12 => zRd (s12 11) v1 32 fun x13 => m_X8_afterCredits_j40  n n x13 (0 : Int32) s12) else (zRt (0 : Int32) s9)
def m_X8_afterCredits (n : Nat) (v1 : Int32) (s : zS) : Option (Int32 × zS) :=
  zBd (m_X8_isLine n v1 s) fun x14 s15 => if x14 = 0 then (m_X8_afterCredits_j13  n v1 (1 : Int32) s15) else (m_X8_afterCredits_j13  n v1 (0 : Int32) s15)
def m_X8_bestSum_j13 (n : Nat) (v1 : Int32) (t1 : Int32) (s : zS) : Option (Int32 × zS) :=
  zLt (zU s 0 23 t1) fun s1 => if (s1 0 23) ≤ 0 then (zBd (m_X8_solves n (-1 : Int32) (0 : Int32) s1) fun x3 s4 => zRd (s4 11) v1 32 fun x5 => zBd (m_X8_orders n x5 s4) fun x6 s7 => zRt (s7 0 22) s7) else (zRt (0 : Int32) s1)
def m_X8_bestSum (n : Nat) (v1 : Int32) (s : zS) : Option (Int32 × zS) :=
  zBd (m_X8_isLine n v1 s) fun x8 s9 => if x8 = 0 then (m_X8_bestSum_j13  n v1 (1 : Int32) s9) else (m_X8_bestSum_j13  n v1 (0 : Int32) s9)
