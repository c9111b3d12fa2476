def zLL : List zK := [.inr (7, [3, 8, 12, 15, 18, 23, 25, 27]), .inr (5, [4, 5, 6, 7]), .inl (0, 16), .inl (0, 16), .inl (0, 16), .inl (0, 16), .inr (4, [9, 10, 11, 0, 0, 0, 0]), .inl (0, 16), .inl (0, 16), .inl (0, 16), .inr (1, [13, 14, 0]), .inl (0, 5), .inl (0, 5), .inr (0, [16, 17, 0, 0]), .inl (0, 8), .inl (0, 8), .inr (2, [19, 20, 21, 22, 0]), .inl (0, 5), .inl (0, 5), .inl (0, 5), .inl (0, 5), .inr (6, [3, 8, 12, 15, 24, 0]), .inl (0, 16), .inr (6, [3, 8, 12, 15, 26, 0]), .inl (0, 16), .inr (3, [28, 0, 0]), .inl (0, 16), .inr (8, [30, 31, 32, 33, 0, 34, 35, 0, 0, 36, 37, 0, 38, 39, 40, 41, 42, 43, 44, 45, 46, 47, 0, 0]), .inl (0, 16), .inl (0, 16), .inl (0, 16), .inl (0, 16), .inl (0, 5), .inl (0, 5), .inl (0, 8), .inl (0, 8), .inl (0, 5), .inl (0, 5), .inl (0, 32), .inl (1, 32), .inl (0, 16), .inl (0, 16), .inl (0, 16), .inl (0, 16), .inl (0, 5), .inl (0, 5), .inl (2, 1)]
theorem kL0 : zLL[0]? = some (.inr (7, [3, 8, 12, 15, 18, 23, 25, 27])) := rfl
theorem kL1 : zLL[1]? = some (.inr (5, [4, 5, 6, 7])) := rfl
theorem kL2 : zLL[2]? = some (.inl (0, 16)) := rfl
theorem kL3 : zLL[3]? = some (.inl (0, 16)) := rfl
theorem kL4 : zLL[4]? = some (.inl (0, 16)) := rfl
theorem kL5 : zLL[5]? = some (.inl (0, 16)) := rfl
theorem kL6 : zLL[6]? = some (.inr (4, [9, 10, 11, 0, 0, 0, 0])) := rfl
theorem kL7 : zLL[7]? = some (.inl (0, 16)) := rfl
theorem kL8 : zLL[8]? = some (.inl (0, 16)) := rfl
theorem kL9 : zLL[9]? = some (.inl (0, 16)) := rfl
theorem kL10 : zLL[10]? = some (.inr (1, [13, 14, 0])) := rfl
theorem kL11 : zLL[11]? = some (.inl (0, 5)) := rfl
theorem kL12 : zLL[12]? = some (.inl (0, 5)) := rfl
theorem kL13 : zLL[13]? = some (.inr (0, [16, 17, 0, 0])) := rfl
theorem kL14 : zLL[14]? = some (.inl (0, 8)) := rfl
theorem kL15 : zLL[15]? = some (.inl (0, 8)) := rfl
theorem kL16 : zLL[16]? = some (.inr (2, [19, 20, 21, 22, 0])) := rfl
theorem kL17 : zLL[17]? = some (.inl (0, 5)) := rfl
theorem kL18 : zLL[18]? = some (.inl (0, 5)) := rfl
theorem kL19 : zLL[19]? = some (.inl (0, 5)) := rfl
theorem kL20 : zLL[20]? = some (.inl (0, 5)) := rfl
theorem kL21 : zLL[21]? = some (.inr (6, [3, 8, 12, 15, 24, 0])) := rfl
theorem kL22 : zLL[22]? = some (.inl (0, 16)) := rfl
theorem kL23 : zLL[23]? = some (.inr (6, [3, 8, 12, 15, 26, 0])) := rfl
theorem kL24 : zLL[24]? = some (.inl (0, 16)) := rfl
theorem kL25 : zLL[25]? = some (.inr (3, [28, 0, 0])) := rfl
theorem kL26 : zLL[26]? = some (.inl (0, 16)) := rfl
theorem kL27 : zLL[27]? = some (.inr (8, [30, 31, 32, 33, 0, 34, 35, 0, 0, 36, 37, 0, 38, 39, 40, 41, 42, 43, 44, 45, 46, 47, 0, 0])) := rfl
theorem kL28 : zLL[28]? = some (.inl (0, 16)) := rfl
theorem kL29 : zLL[29]? = some (.inl (0, 16)) := rfl
theorem kL30 : zLL[30]? = some (.inl (0, 16)) := rfl
theorem kL31 : zLL[31]? = some (.inl (0, 16)) := rfl
theorem kL32 : zLL[32]? = some (.inl (0, 5)) := rfl
theorem kL33 : zLL[33]? = some (.inl (0, 5)) := rfl
theorem kL34 : zLL[34]? = some (.inl (0, 8)) := rfl
theorem kL35 : zLL[35]? = some (.inl (0, 8)) := rfl
theorem kL36 : zLL[36]? = some (.inl (0, 5)) := rfl
theorem kL37 : zLL[37]? = some (.inl (0, 5)) := rfl
theorem kL38 : zLL[38]? = some (.inl (0, 32)) := rfl
theorem kL39 : zLL[39]? = some (.inl (1, 32)) := rfl
theorem kL40 : zLL[40]? = some (.inl (0, 16)) := rfl
theorem kL41 : zLL[41]? = some (.inl (0, 16)) := rfl
theorem kL42 : zLL[42]? = some (.inl (0, 16)) := rfl
theorem kL43 : zLL[43]? = some (.inl (0, 16)) := rfl
theorem kL44 : zLL[44]? = some (.inl (0, 5)) := rfl
theorem kL45 : zLL[45]? = some (.inl (0, 5)) := rfl
theorem kL46 : zLL[46]? = some (.inl (2, 1)) := rfl
def zHx {β : Type} (x : Option ((Int32 ⊕ Nat) × zS)) (g : Nat → zS → Option β) (f : Int32 → zS → Option β) : Option β := match x with
  | some (.inl v, s) => f v s
  | some (.inr k, s) => g k s
  | none => none
theorem zHx_of {β : Type} {x : Option ((Int32 ⊕ Nat) × zS)} {g : Nat → zS → Option β} {f : Int32 → zS → Option β} {r : β} (h : zHx x g f = some r) : (∃ v s, x = some (.inl v, s) ∧ f v s = some r) ∨ (∃ k s, x = some (.inr k, s) ∧ g k s = some r) := by
  unfold zHx at h
  split at h
  · exact Or.inl ⟨_, _, rfl, h⟩
  · exact Or.inr ⟨_, _, rfl, h⟩
  · cases h
def m_L_define (n : Nat) (v1 : Int32) (v2 : Int32) (v3 : Int32) (v4 : Int32) (s : zS) : Option (Int32 × zS) :=
  zHx (m_X7_define n v1 v2 v3 v4 (zSo s 0)) (fun k s2 => if k = 1 then zRt (1 : Int32) (zMix 0 27 s s2) else if k = 2 then zRt (2 : Int32) (zMix 0 27 s s2) else if k = 3 then zRt (3 : Int32) (zMix 0 27 s s2) else none) fun x1 s2 => zLt (zMix 0 27 s s2) fun s3 => zRt (0 : Int32) s3
def m_L_answer (n : Nat) (v1 : Int32) (v2 : Int32) (s : zS) : Option (Int32 × zS) :=
  zHx (m_X7_answer n v1 v2 (zSo s 0)) (fun k s2 => if k = 1 then zRt (1 : Int32) (zMix 0 27 s s2) else if k = 2 then zRt (2 : Int32) (zMix 0 27 s s2) else none) fun x1 s2 => zLt (zMix 0 27 s s2) fun s3 => zWr s3 46 (0 : Int32) 1 x1 fun s4 => zRt (0 : Int32) s4
def m_L_kindOf (n : Nat) (v1 : Int32) (s : zS) : Option (Int32 × zS) :=
  zHx (m_X7_kindOf n v1 (zSo s 0)) (fun k s2 => if k = 1 then zRt (1 : Int32) (zMix 0 27 s s2) else none) fun x1 s2 => zLt (zMix 0 27 s s2) fun s3 => zWr s3 46 (0 : Int32) 1 x1 fun s4 => zRt (0 : Int32) s4
def m_L_value (n : Nat) (v1 : Int32) (s : zS) : Option (Int32 × zS) :=
  zHx (m_X7_value n v1 (zSo s 0)) (fun k s2 => if k = 1 then zRt (1 : Int32) (zMix 0 27 s s2) else none) fun x1 s2 => zLt (zMix 0 27 s s2) fun s3 => zWr s3 46 (0 : Int32) 1 x1 fun s4 => zRt (0 : Int32) s4
def m_L_boundFor (n : Nat) (v1 : Int32) (v2 : Int32) (s : zS) : Option (Int32 × zS) :=
  zHx (m_X7_boundFor n v1 v2 (zSo s 0)) (fun k s2 => if k = 1 then zRt (1 : Int32) (zMix 0 27 s s2) else if k = 2 then zRt (2 : Int32) (zMix 0 27 s s2) else if k = 3 then zRt (3 : Int32) (zMix 0 27 s s2) else none) fun x1 s2 => zLt (zMix 0 27 s s2) fun s3 => zWr s3 46 (0 : Int32) 1 x1 fun s4 => zRt (0 : Int32) s4
def m_L_dependsOn (n : Nat) (v1 : Int32) (v2 : Int32) (s : zS) : Option (Int32 × zS) :=
  zHx (m_X7_dependsOn n v1 v2 (zSo s 0)) (fun k s2 => if k = 1 then zRt (1 : Int32) (zMix 0 27 s s2) else none) fun x1 s2 => zLt (zMix 0 27 s s2) fun s3 => if x1 = 0 then (zWr s3 46 (0 : Int32) 1 (0 : Int32) fun s5 => zRt (0 : Int32) s5) else (zWr s3 46 (0 : Int32) 1 (1 : Int32) fun s6 => zRt (0 : Int32) s6)
def m_L_influence (n : Nat) (v1 : Int32) (s : zS) : Option (Int32 × zS) :=
  zHx (m_X7_influence n v1 (zSo s 0)) (fun k s2 => if k = 1 then zRt (1 : Int32) (zMix 0 27 s s2) else none) fun x1 s2 => zLt (zMix 0 27 s s2) fun s3 => zWr s3 46 (0 : Int32) 1 x1 fun s4 => zRt (0 : Int32) s4
def m_L_why (n : Nat) (v1 : Int32) (v2 : Int32) (s : zS) : Option (Int32 × zS) :=
  zHx (m_X7_why n v1 v2 (zSo s 0)) (fun k s2 => if k = 1 then zRt (1 : Int32) (zMix 0 27 s s2) else none) fun x1 s2 => zLt (zMix 0 27 s s2) fun s3 => zWr s3 46 (0 : Int32) 1 x1 fun s4 => zRt (0 : Int32) s4
def m_L_bracket (n : Nat) (v1 : Int32) (v2 : Int32) (s : zS) : Option (Int32 × zS) :=
  zHx (m_X7_bracket n v1 v2 (zSo s 0)) (fun k s2 => if k = 2 then zRt (1 : Int32) (zMix 0 27 s s2) else if k = 3 then zRt (2 : Int32) (zMix 0 27 s s2) else none) fun x1 s2 => zLt (zMix 0 27 s s2) fun s3 => zWr s3 46 (0 : Int32) 1 x1 fun s4 => zRt (0 : Int32) s4
def m_L_taxOn (n : Nat) (v1 : Int32) (s : zS) : Option (Int32 × zS) :=
  zHx (m_X7_taxOn n v1 (zSo s 0)) (fun k s2 => if k = 2 then zRt (1 : Int32) (zMix 0 27 s s2) else none) fun x1 s2 => zLt (zMix 0 27 s s2) fun s3 => zWr s3 46 (0 : Int32) 1 x1 fun s4 => zRt (0 : Int32) s4
def m_L_carry (n : Nat) (v1 : Int32) (v2 : Int32) (s : zS) : Option (Int32 × zS) :=
  zHx (m_X7_carry n v1 v2 (zSo s 0)) (fun k s2 => if k = 2 then zRt (1 : Int32) (zMix 0 27 s s2) else if k = 3 then zRt (2 : Int32) (zMix 0 27 s s2) else none) fun x1 s2 => zLt (zMix 0 27 s s2) fun s3 => zWr s3 46 (0 : Int32) 1 x1 fun s4 => zRt (0 : Int32) s4
def m_L_carriedAt (n : Nat) (v1 : Int32) (s : zS) : Option (Int32 × zS) :=
  zHx (m_X7_carriedAt n v1 (zSo s 0)) (fun k s2 => if k = 1 then zRt (1 : Int32) (zMix 0 27 s s2) else none) fun x1 s2 => zLt (zMix 0 27 s s2) fun s3 => zWr s3 46 (0 : Int32) 1 x1 fun s4 => zRt (0 : Int32) s4
def m_L_addCredit (n : Nat) (v1 : Int32) (v2 : Int32) (s : zS) : Option (Int32 × zS) :=
  zHx (m_X7_addCredit n v1 v2 (zSo s 0)) (fun k s2 => if k = 2 then zRt (1 : Int32) (zMix 0 27 s s2) else if k = 3 then zRt (2 : Int32) (zMix 0 27 s s2) else none) fun x1 s2 => zLt (zMix 0 27 s s2) fun s3 => zWr s3 46 (0 : Int32) 1 x1 fun s4 => zRt (0 : Int32) s4
def m_L_dropCredit (n : Nat)  (s : zS) : Option (Int32 × zS) :=
  zHx (m_X7_dropCredit n (zSo s 0)) (fun k s2 => if k = 3 then zRt (1 : Int32) (zMix 0 27 s s2) else none) fun x1 s2 => zLt (zMix 0 27 s s2) fun s3 => zWr s3 46 (0 : Int32) 1 x1 fun s4 => zRt (0 : Int32) s4
def m_L_creditAt (n : Nat) (v1 : Int32) (v2 : Int32) (s : zS) : Option (Int32 × zS) :=
  zHx (m_X7_creditAt n v1 v2 (zSo s 0)) (fun k s2 => if k = 1 then zRt (1 : Int32) (zMix 0 27 s s2) else none) fun x1 s2 => zLt (zMix 0 27 s s2) fun s3 => zWr s3 46 (0 : Int32) 1 x1 fun s4 => zRt (0 : Int32) s4
def m_L_afterCredits (n : Nat) (v1 : Int32) (s : zS) : Option (Int32 × zS) :=
  zHx (m_X7_afterCredits n v1 (zSo s 0)) (fun k s2 => if k = 1 then zRt (1 : Int32) (zMix 0 27 s s2) else none) fun x1 s2 => zLt (zMix 0 27 s s2) fun s3 => zWr s3 46 (0 : Int32) 1 x1 fun s4 => zRt (0 : Int32) s4
def m_L_bestSum (n : Nat) (v1 : Int32) (s : zS) : Option (Int32 × zS) :=
  zHx (m_X7_bestSum n v1 (zSo s 0)) (fun k s2 => if k = 1 then zRt (1 : Int32) (zMix 0 27 s s2) else none) fun x1 s2 => zLt (zMix 0 27 s s2) fun s3 => zWr s3 46 (0 : Int32) 1 x1 fun s4 => zRt (0 : Int32) s4
def m_L_law_c0 (rec : Int32 → zS → Option (Int32 × zS)) (n N : Nat) (xs : Nat → Int32) (v4 : Int32) (s : zS) : Option (Int32 × zS) :=
  zRd xs (v4 + (1 : Int32)) N fun x5 => zRd xs (v4 + (2 : Int32)) N fun x6 => zRd xs (v4 + (3 : Int32)) N fun x7 => zRd xs (v4 + (4 : Int32)) N fun x8 => zBd (m_L_define n x5 x6 x7 x8 s) fun x9 s10 => zRd xs (v4 + (1 : Int32)) N fun x11 => zRd xs (v4 + (2 : Int32)) N fun x12 => zRd xs (v4 + (3 : Int32)) N fun x13 => zRd xs (v4 + (4 : Int32)) N fun x14 => zBd (m_X8_define n x11 x12 x13 x14 (zSo s10 27)) fun x15 s16 => zLt (zMix 27 19 s10 s16) fun s17 => zBd (m_X8_thrown n (zSo s17 27)) fun x18 s19 => zLt (zMix 27 19 s17 s19) fun s20 => if x18 = x9 then (zLt (v4 + (5 : Int32)) fun x22 => rec x22 s20) else (zRt (0 : Int32) s20)
def m_L_law_c1 (rec : Int32 → zS → Option (Int32 × zS)) (n N : Nat) (xs : Nat → Int32) (v4 : Int32) (s : zS) : Option (Int32 × zS) :=
  zRd xs (v4 + (1 : Int32)) N fun x24 => zRd xs (v4 + (2 : Int32)) N fun x25 => zBd (m_L_answer n x24 x25 s) fun x26 s27 => zRd xs (v4 + (1 : Int32)) N fun x28 => zRd xs (v4 + (2 : Int32)) N fun x29 => zBd (m_X8_answer n x28 x29 (zSo s27 27)) fun x30 s31 => zLt (zMix 27 19 s27 s31) fun s32 => zBd (m_X8_thrown n (zSo s32 27)) fun x33 s34 => zLt (zMix 27 19 s32 s34) fun s35 => if x33 = x26 then (if x26 = 0 then (zRd (s35 46) (0 : Int32) 1 fun x39 => if (lg_cmp (Int32.toInt64 x39) (Int32.toInt64 x30)) = 0 then (zLt (v4 + (5 : Int32)) fun x41 => rec x41 s35) else (zRt (0 : Int32) s35)) else (zLt (v4 + (5 : Int32)) fun x38 => rec x38 s35)) else (zRt (0 : Int32) s35)
def m_L_law_c2 (rec : Int32 → zS → Option (Int32 × zS)) (n N : Nat) (xs : Nat → Int32) (v4 : Int32) (s : zS) : Option (Int32 × zS) :=
  zRd xs (v4 + (1 : Int32)) N fun x43 => zBd (m_L_kindOf n x43 s) fun x44 s45 => zRd xs (v4 + (1 : Int32)) N fun x46 => zBd (m_X8_kindOf n x46 (zSo s45 27)) fun x47 s48 => zLt (zMix 27 19 s45 s48) fun s49 => zBd (m_X8_thrown n (zSo s49 27)) fun x50 s51 => zLt (zMix 27 19 s49 s51) fun s52 => if x50 = x44 then (if x44 = 0 then (zRd (s52 46) (0 : Int32) 1 fun x56 => if (lg_cmp (Int32.toInt64 x56) (Int32.toInt64 x47)) = 0 then (zLt (v4 + (5 : Int32)) fun x58 => rec x58 s52) else (zRt (0 : Int32) s52)) else (zLt (v4 + (5 : Int32)) fun x55 => rec x55 s52)) else (zRt (0 : Int32) s52)
def m_L_law_c3 (rec : Int32 → zS → Option (Int32 × zS)) (n N : Nat) (xs : Nat → Int32) (v4 : Int32) (s : zS) : Option (Int32 × zS) :=
  zRd xs (v4 + (1 : Int32)) N fun x60 => zBd (m_L_value n x60 s) fun x61 s62 => zRd xs (v4 + (1 : Int32)) N fun x63 => zBd (m_X8_value n x63 (zSo s62 27)) fun x64 s65 => zLt (zMix 27 19 s62 s65) fun s66 => zBd (m_X8_thrown n (zSo s66 27)) fun x67 s68 => zLt (zMix 27 19 s66 s68) fun s69 => if x67 = x61 then (if x61 = 0 then (zRd (s69 46) (0 : Int32) 1 fun x73 => if (lg_cmp (Int32.toInt64 x73) (Int32.toInt64 x64)) = 0 then (zLt (v4 + (5 : Int32)) fun x75 => rec x75 s69) else (zRt (0 : Int32) s69)) else (zLt (v4 + (5 : Int32)) fun x72 => rec x72 s69)) else (zRt (0 : Int32) s69)
def m_L_law_c4 (rec : Int32 → zS → Option (Int32 × zS)) (n N : Nat) (xs : Nat → Int32) (v4 : Int32) (s : zS) : Option (Int32 × zS) :=
  zRd xs (v4 + (1 : Int32)) N fun x77 => zRd xs (v4 + (2 : Int32)) N fun x78 => zBd (m_L_boundFor n x77 x78 s) fun x79 s80 => zRd xs (v4 + (1 : Int32)) N fun x81 => zRd xs (v4 + (2 : Int32)) N fun x82 => zBd (m_X8_boundFor n x81 x82 (zSo s80 27)) fun x83 s84 => zLt (zMix 27 19 s80 s84) fun s85 => zBd (m_X8_thrown n (zSo s85 27)) fun x86 s87 => zLt (zMix 27 19 s85 s87) fun s88 => if x86 = x79 then (if x79 = 0 then (zRd (s88 46) (0 : Int32) 1 fun x92 => if (lg_cmp (Int32.toInt64 x92) (Int32.toInt64 x83)) = 0 then (zLt (v4 + (5 : Int32)) fun x94 => rec x94 s88) else (zRt (0 : Int32) s88)) else (zLt (v4 + (5 : Int32)) fun x91 => rec x91 s88)) else (zRt (0 : Int32) s88)
def m_L_law_c5 (rec : Int32 → zS → Option (Int32 × zS)) (n N : Nat) (xs : Nat → Int32) (v4 : Int32) (s : zS) : Option (Int32 × zS) :=
  zRd xs (v4 + (1 : Int32)) N fun x96 => zRd xs (v4 + (2 : Int32)) N fun x97 => zBd (m_L_dependsOn n x96 x97 s) fun x98 s99 => zRd xs (v4 + (1 : Int32)) N fun x100 => zRd xs (v4 + (2 : Int32)) N fun x101 => zBd (m_X8_dependsOn n x100 x101 (zSo s99 27)) fun x102 s103 => zLt (zMix 27 19 s99 s103) fun s104 => zBd (m_X8_thrown n (zSo s104 27)) fun x105 s106 => zLt (zMix 27 19 s104 s106) fun s107 => if x105 = x98 then (if x98 = 0 then (zRd (s107 46) (0 : Int32) 1 fun x111 => if x102 = 0 then (if (lg_cmp (Int32.toInt64 x111) (0 : Int64)) = 0 then (zLt (v4 + (5 : Int32)) fun x114 => rec x114 s107) else (zRt (0 : Int32) s107)) else (if (lg_cmp (Int32.toInt64 x111) (1 : Int64)) = 0 then (zLt (v4 + (5 : Int32)) fun x116 => rec x116 s107) else (zRt (0 : Int32) s107))) else (zLt (v4 + (5 : Int32)) fun x110 => rec x110 s107)) else (zRt (0 : Int32) s107)
def m_L_law_c6 (rec : Int32 → zS → Option (Int32 × zS)) (n N : Nat) (xs : Nat → Int32) (v4 : Int32) (s : zS) : Option (Int32 × zS) :=
  zRd xs (v4 + (1 : Int32)) N fun x118 => zBd (m_L_influence n x118 s) fun x119 s120 => zRd xs (v4 + (1 : Int32)) N fun x121 => zBd (m_X8_influence n x121 (zSo s120 27)) fun x122 s123 => zLt (zMix 27 19 s120 s123) fun s124 => zBd (m_X8_thrown n (zSo s124 27)) fun x125 s126 => zLt (zMix 27 19 s124 s126) fun s127 => if x125 = x119 then (if x119 = 0 then (zRd (s127 46) (0 : Int32) 1 fun x131 => if (lg_cmp (Int32.toInt64 x131) (Int32.toInt64 x122)) = 0 then (zLt (v4 + (5 : Int32)) fun x133 => rec x133 s127) else (zRt (0 : Int32) s127)) else (zLt (v4 + (5 : Int32)) fun x130 => rec x130 s127)) else (zRt (0 : Int32) s127)
def m_L_law_c7 (rec : Int32 → zS → Option (Int32 × zS)) (n N : Nat) (xs : Nat → Int32) (v4 : Int32) (s : zS) : Option (Int32 × zS) :=
  zRd xs (v4 + (1 : Int32)) N fun x135 => zRd xs (v4 + (2 : Int32)) N fun x136 => zBd (m_L_why n x135 x136 s) fun x137 s138 => zRd xs (v4 + (1 : Int32)) N fun x139 => zRd xs (v4 + (2 : Int32)) N fun x140 => zBd (m_X8_why n x139 x140 (zSo s138 27)) fun x141 s142 => zLt (zMix 27 19 s138 s142) fun s143 => zBd (m_X8_thrown n (zSo s143 27)) fun x144 s145 => zLt (zMix 27 19 s143 s145) fun s146 => if x144 = x137 then (if x137 = 0 then (zRd (s146 46) (0 : Int32) 1 fun x150 => if (lg_cmp (Int32.toInt64 x150) (Int32.toInt64 x141)) = 0 then (zLt (v4 + (5 : Int32)) fun x152 => rec x152 s146) else (zRt (0 : Int32) s146)) else (zLt (v4 + (5 : Int32)) fun x149 => rec x149 s146)) else (zRt (0 : Int32) s146)
def m_L_law_c8 (rec : Int32 → zS → Option (Int32 × zS)) (n N : Nat) (xs : Nat → Int32) (v4 : Int32) (s : zS) : Option (Int32 × zS) :=
  zRd xs (v4 + (1 : Int32)) N fun x154 => zRd xs (v4 + (2 : Int32)) N fun x155 => zBd (m_L_bracket n x154 x155 s) fun x156 s157 => zRd xs (v4 + (1 : Int32)) N fun x158 => zRd xs (v4 + (2 : Int32)) N fun x159 => zBd (m_X8_bracket n x158 x159 (zSo s157 27)) fun x160 s161 => zLt (zMix 27 19 s157 s161) fun s162 => zBd (m_X8_thrown n (zSo s162 27)) fun x163 s164 => zLt (zMix 27 19 s162 s164) fun s165 => if x163 = x156 then (if x156 = 0 then (zRd (s165 46) (0 : Int32) 1 fun x169 => if (lg_cmp (Int32.toInt64 x169) (Int32.toInt64 x160)) = 0 then (zLt (v4 + (5 : Int32)) fun x171 => rec x171 s165) else (zRt (0 : Int32) s165)) else (zLt (v4 + (5 : Int32)) fun x168 => rec x168 s165)) else (zRt (0 : Int32) s165)
def m_L_law_c9 (rec : Int32 → zS → Option (Int32 × zS)) (n N : Nat) (xs : Nat → Int32) (v4 : Int32) (s : zS) : Option (Int32 × zS) :=
  zBd (m_X7_dropBrackets n (zSo s 0)) fun x173 s174 => zLt (zMix 0 27 s s174) fun s175 => zBd (m_X8_dropBrackets n (zSo s175 27)) fun x176 s177 => zLt (zMix 27 19 s175 s177) fun s178 => if x173 = x176 then (zLt (v4 + (5 : Int32)) fun x180 => rec x180 s178) else (zRt (0 : Int32) s178)
def m_L_law_c10 (rec : Int32 → zS → Option (Int32 × zS)) (n N : Nat) (xs : Nat → Int32) (v4 : Int32) (s : zS) : Option (Int32 × zS) :=
  zRd xs (v4 + (1 : Int32)) N fun x182 => zBd (m_L_taxOn n x182 s) fun x183 s184 => zRd xs (v4 + (1 : Int32)) N fun x185 => zBd (m_X8_taxOn n x185 (zSo s184 27)) fun x186 s187 => zLt (zMix 27 19 s184 s187) fun s188 => zBd (m_X8_thrown n (zSo s188 27)) fun x189 s190 => zLt (zMix 27 19 s188 s190) fun s191 => if x189 = x183 then (if x183 = 0 then (zRd (s191 46) (0 : Int32) 1 fun x195 => if (lg_cmp (Int32.toInt64 x195) (Int32.toInt64 x186)) = 0 then (zLt (v4 + (5 : Int32)) fun x197 => rec x197 s191) else (zRt (0 : Int32) s191)) else (zLt (v4 + (5 : Int32)) fun x194 => rec x194 s191)) else (zRt (0 : Int32) s191)
def m_L_law_c11 (rec : Int32 → zS → Option (Int32 × zS)) (n N : Nat) (xs : Nat → Int32) (v4 : Int32) (s : zS) : Option (Int32 × zS) :=
  zRd xs (v4 + (1 : Int32)) N fun x199 => zRd xs (v4 + (2 : Int32)) N fun x200 => zBd (m_L_carry n x199 x200 s) fun x201 s202 => zRd xs (v4 + (1 : Int32)) N fun x203 => zRd xs (v4 + (2 : Int32)) N fun x204 => zBd (m_X8_carry n x203 x204 (zSo s202 27)) fun x205 s206 => zLt (zMix 27 19 s202 s206) fun s207 => zBd (m_X8_thrown n (zSo s207 27)) fun x208 s209 => zLt (zMix 27 19 s207 s209) fun s210 => if x208 = x201 then (if x201 = 0 then (zRd (s210 46) (0 : Int32) 1 fun x214 => if (lg_cmp (Int32.toInt64 x214) (Int32.toInt64 x205)) = 0 then (zLt (v4 + (5 : Int32)) fun x216 => rec x216 s210) else (zRt (0 : Int32) s210)) else (zLt (v4 + (5 : Int32)) fun x213 => rec x213 s210)) else (zRt (0 : Int32) s210)
def m_L_law_c12 (rec : Int32 → zS → Option (Int32 × zS)) (n N : Nat) (xs : Nat → Int32) (v4 : Int32) (s : zS) : Option (Int32 × zS) :=
  zBd (m_X7_carried n (zSo s 0)) fun x218 s219 => zLt (zMix 0 27 s s219) fun s220 => zBd (m_X8_carried n (zSo s220 27)) fun x221 s222 => zLt (zMix 27 19 s220 s222) fun s223 => if x218 = x221 then (zLt (v4 + (5 : Int32)) fun x225 => rec x225 s223) else (zRt (0 : Int32) s223)
def m_L_law_c13 (rec : Int32 → zS → Option (Int32 × zS)) (n N : Nat) (xs : Nat → Int32) (v4 : Int32) (s : zS) : Option (Int32 × zS) :=
  zRd xs (v4 + (1 : Int32)) N fun x227 => zBd (m_L_carriedAt n x227 s) fun x228 s229 => zRd xs (v4 + (1 : Int32)) N fun x230 => zBd (m_X8_carriedAt n x230 (zSo s229 27)) fun x231 s232 => zLt (zMix 27 19 s229 s232) fun s233 => zBd (m_X8_thrown n (zSo s233 27)) fun x234 s235 => zLt (zMix 27 19 s233 s235) fun s236 => if x234 = x228 then (if x228 = 0 then (zRd (s236 46) (0 : Int32) 1 fun x240 => if (lg_cmp (Int32.toInt64 x240) (Int32.toInt64 x231)) = 0 then (zLt (v4 + (5 : Int32)) fun x242 => rec x242 s236) else (zRt (0 : Int32) s236)) else (zLt (v4 + (5 : Int32)) fun x239 => rec x239 s236)) else (zRt (0 : Int32) s236)
def m_L_law_c14 (rec : Int32 → zS → Option (Int32 × zS)) (n N : Nat) (xs : Nat → Int32) (v4 : Int32) (s : zS) : Option (Int32 × zS) :=
  zBd (m_X7_year n (zSo s 0)) fun x244 s245 => zLt (zMix 0 27 s s245) fun s246 => zBd (m_X8_year n (zSo s246 27)) fun x247 s248 => zLt (zMix 27 19 s246 s248) fun s249 => if x244 = x247 then (zLt (v4 + (5 : Int32)) fun x251 => rec x251 s249) else (zRt (0 : Int32) s249)
def m_L_law_c15 (rec : Int32 → zS → Option (Int32 × zS)) (n N : Nat) (xs : Nat → Int32) (v4 : Int32) (s : zS) : Option (Int32 × zS) :=
  zBd (m_X7_closeYear n (zSo s 0)) fun x253 s254 => zLt (zMix 0 27 s s254) fun s255 => zBd (m_X8_closeYear n (zSo s255 27)) fun x256 s257 => zLt (zMix 27 19 s255 s257) fun s258 => if x253 = x256 then (zLt (v4 + (5 : Int32)) fun x260 => rec x260 s258) else (zRt (0 : Int32) s258)
def m_L_law_c16 (rec : Int32 → zS → Option (Int32 × zS)) (n N : Nat) (xs : Nat → Int32) (v4 : Int32) (s : zS) : Option (Int32 × zS) :=
  zRd xs (v4 + (1 : Int32)) N fun x262 => zRd xs (v4 + (2 : Int32)) N fun x263 => zBd (m_L_addCredit n x262 x263 s) fun x264 s265 => zRd xs (v4 + (1 : Int32)) N fun x266 => zRd xs (v4 + (2 : Int32)) N fun x267 => zBd (m_X8_addCredit n x266 x267 (zSo s265 27)) fun x268 s269 => zLt (zMix 27 19 s265 s269) fun s270 => zBd (m_X8_thrown n (zSo s270 27)) fun x271 s272 => zLt (zMix 27 19 s270 s272) fun s273 => if x271 = x264 then (if x264 = 0 then (zRd (s273 46) (0 : Int32) 1 fun x277 => if (lg_cmp (Int32.toInt64 x277) (Int32.toInt64 x268)) = 0 then (zLt (v4 + (5 : Int32)) fun x279 => rec x279 s273) else (zRt (0 : Int32) s273)) else (zLt (v4 + (5 : Int32)) fun x276 => rec x276 s273)) else (zRt (0 : Int32) s273)
def m_L_law_c17 (rec : Int32 → zS → Option (Int32 × zS)) (n N : Nat) (xs : Nat → Int32) (v4 : Int32) (s : zS) : Option (Int32 × zS) :=
  zBd (m_L_dropCredit n s) fun x281 s282 => zBd (m_X8_dropCredit n (zSo s282 27)) fun x283 s284 => zLt (zMix 27 19 s282 s284) fun s285 => zBd (m_X8_thrown n (zSo s285 27)) fun x286 s287 => zLt (zMix 27 19 s285 s287) fun s288 => if x286 = x281 then (if x281 = 0 then (zRd (s288 46) (0 : Int32) 1 fun x292 => if (lg_cmp (Int32.toInt64 x292) (Int32.toInt64 x283)) = 0 then (zLt (v4 + (5 : Int32)) fun x294 => rec x294 s288) else (zRt (0 : Int32) s288)) else (zLt (v4 + (5 : Int32)) fun x291 => rec x291 s288)) else (zRt (0 : Int32) s288)
def m_L_law_c18 (rec : Int32 → zS → Option (Int32 × zS)) (n N : Nat) (xs : Nat → Int32) (v4 : Int32) (s : zS) : Option (Int32 × zS) :=
  zRd xs (v4 + (1 : Int32)) N fun x296 => zRd xs (v4 + (2 : Int32)) N fun x297 => zBd (m_L_creditAt n x296 x297 s) fun x298 s299 => zRd xs (v4 + (1 : Int32)) N fun x300 => zRd xs (v4 + (2 : Int32)) N fun x301 => zBd (m_X8_creditAt n x300 x301 (zSo s299 27)) fun x302 s303 => zLt (zMix 27 19 s299 s303) fun s304 => zBd (m_X8_thrown n (zSo s304 27)) fun x305 s306 => zLt (zMix 27 19 s304 s306) fun s307 => if x305 = x298 then (if x298 = 0 then (zRd (s307 46) (0 : Int32) 1 fun x311 => if (lg_cmp (Int32.toInt64 x311) (Int32.toInt64 x302)) = 0 then (zLt (v4 + (5 : Int32)) fun x313 => rec x313 s307) else (zRt (0 : Int32) s307)) else (zLt (v4 + (5 : Int32)) fun x310 => rec x310 s307)) else (zRt (0 : Int32) s307)
def m_L_law_c19 (rec : Int32 → zS → Option (Int32 × zS)) (n N : Nat) (xs : Nat → Int32) (v4 : Int32) (s : zS) : Option (Int32 × zS) :=
  zRd xs (v4 + (1 : Int32)) N fun x315 => zBd (m_L_afterCredits n x315 s) fun x316 s317 => zRd xs (v4 + (1 : Int32)) N fun x318 => zBd (m_X8_afterCredits n x318 (zSo s317 27)) fun x319 s320 => zLt (zMix 27 19 s317 s320) fun s321 => zBd (m_X8_thrown n (zSo s321 27)) fun x322 s323 => zLt (zMix 27 19 s321 s323) fun s324 => if x322 = x316 then (if x316 = 0 then (zRd (s324 46) (0 : Int32) 1 fun x328 => if (lg_cmp (Int32.toInt64 x328) (Int32.toInt64 x319)) = 0 then (zLt (v4 + (5 : Int32)) fun x330 => rec x330 s324) else (zRt (0 : Int32) s324)) else (zLt (v4 + (5 : Int32)) fun x327 => rec x327 s324)) else (zRt (0 : Int32) s324)
def m_L_law_c20 (rec : Int32 → zS → Option (Int32 × zS)) (n N : Nat) (xs : Nat → Int32) (v4 : Int32) (s : zS) : Option (Int32 × zS) :=
  zRd xs (v4 + (1 : Int32)) N fun x332 => zBd (m_L_bestSum n x332 s) fun x333 s334 => zRd xs (v4 + (1 : Int32)) N fun x335 => zBd (m_X8_bestSum n x335 (zSo s334 27)) fun x336 s337 => zLt (zMix 27 19 s334 s337) fun s338 => zBd (m_X8_thrown n (zSo s338 27)) fun x339 s340 => zLt (zMix 27 19 s338 s340) fun s341 => if x339 = x333 then (if x333 = 0 then (zRd (s341 46) (0 : Int32) 1 fun x345 => if (lg_cmp (Int32.toInt64 x345) (Int32.toInt64 x336)) = 0 then (zLt (v4 + (5 : Int32)) fun x347 => rec x347 s341) else (zRt (0 : Int32) s341)) else (zLt (v4 + (5 : Int32)) fun x344 => rec x344 s341)) else (zRt (0 : Int32) s341)
def m_L_law_j23 (n N : Nat) (xs : Nat → Int32) : Nat → Int32 → zS → Option (Int32 × zS)
  | 0, _, _ => none
  | f + 1, v4, s =>
    if ((Int32.ofNat N) - (5 : Int32)) < v4 then (zRt (1 : Int32) s) else (zRd xs v4 N fun x2 => zLt (x2 &&& (31 : Int32)) fun x3 => if x3 = (0 : Int32) then (m_L_law_c0 (m_L_law_j23 n N xs f) n N xs v4 s) else if x3 = (1 : Int32) then (m_L_law_c1 (m_L_law_j23 n N xs f) n N xs v4 s) else if x3 = (2 : Int32) then (m_L_law_c2 (m_L_law_j23 n N xs f) n N xs v4 s) else if x3 = (3 : Int32) then (m_L_law_c3 (m_L_law_j23 n N xs f) n N xs v4 s) else if x3 = (4 : Int32) then (m_L_law_c4 (m_L_law_j23 n N xs f) n N xs v4 s) else if x3 = (5 : Int32) then (m_L_law_c5 (m_L_law_j23 n N xs f) n N xs v4 s) else if x3 = (6 : Int32) then (m_L_law_c6 (m_L_law_j23 n N xs f) n N xs v4 s) else if x3 = (7 : Int32) then (m_L_law_c7 (m_L_law_j23 n N xs f) n N xs v4 s) else if x3 = (8 : Int32) then (m_L_law_c8 (m_L_law_j23 n N xs f) n N xs v4 s) else if x3 = (9 : Int32) then (m_L_law_c9 (m_L_law_j23 n N xs f) n N xs v4 s) else if x3 = (10 : Int32) then (m_L_law_c10 (m_L_law_j23 n N xs f) n N xs v4 s) else if x3 = (11 : Int32) then (m_L_law_c11 (m_L_law_j23 n N xs f) n N xs v4 s) else if x3 = (12 : Int32) then (m_L_law_c12 (m_L_law_j23 n N xs f) n N xs v4 s) else if x3 = (13 : Int32) then (m_L_law_c13 (m_L_law_j23 n N xs f) n N xs v4 s) else if x3 = (14 : Int32) then (m_L_law_c14 (m_L_law_j23 n N xs f) n N xs v4 s) else if x3 = (15 : Int32) then (m_L_law_c15 (m_L_law_j23 n N xs f) n N xs v4 s) else if x3 = (16 : Int32) then (m_L_law_c16 (m_L_law_j23 n N xs f) n N xs v4 s) else if x3 = (17 : Int32) then (m_L_law_c17 (m_L_law_j23 n N xs f) n N xs v4 s) else if x3 = (18 : Int32) then (m_L_law_c18 (m_L_law_j23 n N xs f) n N xs v4 s) else if x3 = (19 : Int32) then (m_L_law_c19 (m_L_law_j23 n N xs f) n N xs v4 s) else if x3 = (20 : Int32) then (m_L_law_c20 (m_L_law_j23 n N xs f) n N xs v4 s) else (zLt (v4 + (5 : Int32)) fun x348 => m_L_law_j23 n N xs f x348 s))

theorem sX : zSb 0 zLX zLL := zSb_of (by decide +kernel)
theorem sM : zSb 27 zLM zLL := zSb_of (by decide +kernel)
theorem z_lret {tb : List ExceptionTableEntry} {h : zH} {ad : Nat → Nat} {G : zG} {Ts : List Cond} {F L b pc : Nat} {σ : zS} {lv : List (Nat × Value)} (C : zCT tb h ad zLL 7 G cL_law RL Ts F L) (hQ : zQl ad b G) (hdg : decode cL_law pc = .ok (.ireturn, 1)) : zV h ad zLL 7 G σ pc lv [.int 1] := by
  obtain ⟨p, e, R, s, m, args, below, meth, c, Q, cells, slots⟩ := G
  obtain ⟨⟨hx, hb, hml, hown, hts⟩, hK, hI, hN, hZ, hlocks, hnt, hF, hL, hst9, hcs, hss⟩ := C
  obtain ⟨rfl, rfl, rfl, hret, hnew⟩ := hQ
  intro H locs ls hP hS hl
  refine va_forget (fun q hq => ?_) (W.widen (k := 1075) (n := 8731) hcs hss (lw_ret hx hb hret hlocks hdg))
  rcases hS.2.2 q hq with ⟨k, hk, e9⟩ | h9
  · rw [e9]; exact hnew k hk
  · exact h9
