set_option maxRecDepth 100000 in
theorem eX4_reach_uX4 : ∀ w ∈ wsX40, w ∈ wsX4_reach := by decide +kernel
set_option maxRecDepth 100000 in
theorem eX4_reach_f9 : Cond.fieldLink RX4 9 RX4 (TX4 0).2.1 (TX4 0).2.2.1 ∈ wsX4_reach := by decide +kernel
set_option maxRecDepth 100000 in
theorem eX4_reach_tX7_at : Cond.static yX7_at ∈ wsX4_reach := by decide +kernel
set_option maxRecDepth 100000 in
theorem eX4_reach_iX7_at : Cond.initialized yX7_at.cls ∈ wsX4_reach := by decide +kernel
set_option maxRecDepth 100000 in
theorem eX4_reach_n55 : (RX4, 55, yX7_at, "TaxEngine") ∈ zN := by decide +kernel
set_option maxRecDepth 100000 in
set_option maxHeartbeats 4000000 in
theorem w_X4_reach_e {h : zH} {ad : Nat → Nat} {G : zG} (C : zC h ad zLX 2 G cX4_reach RX4 wsX4_reach 1 21) {n : Nat} {r : Int32} {s9 : zS} (hQ : zQ h ad zLX G false (.inl r) s9 (some .int)) {v1 : Int32} (s : zS) (hm : m_X4_reach n v1 s = some (r, s9)) : zV h ad zLX 2 G s 0 [(0, .ref (ad 6)), (1, .int v1)] [] := by
  rw [m_X4_reach] at hm
  refine z_aload_n C dX4_reach_0 rfl 0 rfl ?_
  refine z_getr C kX6 vc4 eX4_reach_uX4 0 (by decide) rfl eX4_reach_f9 rfl dX4_reach_1 ?_
  refine z_iload_n C dX4_reach_4 rfl 1 rfl ?_
  obtain ⟨x1, s2, q_s2, hm⟩ := zBd_of hm
  refine z_cSN (vd := false) (host := "TaxEngine") C 2 [.ref (ad 7), .int v1] [] (c_X7_at (zC_I C) (zC_st C) kX7 q_s2) gX4_reach_X7_at_n55 eX4_reach_n55 eX4_reach_tX7_at eX4_reach_iX7_at (by decide +kernel) rfl dX4_reach_5 rfl ⟨Nat.le_of_ble_eq_true rfl, Nat.le_of_ble_eq_true rfl⟩ rfl (Nat.le_of_ble_eq_true rfl) ?_
  exact z_iret0 C hQ (zRt_of hm).1 (zRt_of hm).2 dX4_reach_8
set_option maxRecDepth 100000 in
set_option maxHeartbeats 4000000 in
theorem c_X4_reach {h : zH} {ad : Nat → Nat} (hI : zI ad zLX.length) (hst : h.1.stackTraces = false) {n : Nat} {v1 : Int32} {s s9 : zS} {r : Int32} (hm : m_X4_reach n v1 s = some (r, s9)) : zMR h ad zLX false yX4_reach wsX4_reach 1 21 [.ref (ad 6), .int v1] s (.inl r) s9 :=
  z_start (cc := cX4_reach) (nL := 2) (ret := (some .int)) (own := RX4) (by decide +kernel) rfl rfl hI hst (Nat.le_of_ble_eq_true rfl) (fun G C hQ => w_X4_reach_e C hQ _ hm)
set_option maxRecDepth 100000 in
theorem eX4_findReach_tX7_has : Cond.static yX7_has ∈ wsX4_findReach := by decide +kernel
set_option maxRecDepth 100000 in
theorem eX4_findReach_iX7_has : Cond.initialized yX7_has.cls ∈ wsX4_findReach := by decide +kernel
set_option maxRecDepth 100000 in
theorem eX4_findReach_n61 : (RX4, 61, yX7_has, "TaxEngine") ∈ zN := by decide +kernel
set_option maxRecDepth 100000 in
theorem eX4_findReach_uX4 : ∀ w ∈ wsX40, w ∈ wsX4_findReach := by decide +kernel
set_option maxRecDepth 100000 in
theorem eX4_findReach_f9 : Cond.fieldLink RX4 9 RX4 (TX4 0).2.1 (TX4 0).2.2.1 ∈ wsX4_findReach := by decide +kernel
set_option maxRecDepth 100000 in
theorem eX4_findReach_tX7_put : Cond.static yX7_put ∈ wsX4_findReach := by decide +kernel
set_option maxRecDepth 100000 in
theorem eX4_findReach_iX7_put : Cond.initialized yX7_put.cls ∈ wsX4_findReach := by decide +kernel
set_option maxRecDepth 100000 in
theorem eX4_findReach_n73 : (RX4, 73, yX7_put, "TaxEngine") ∈ zN := by decide +kernel
set_option maxRecDepth 100000 in
set_option maxHeartbeats 4000000 in
theorem w_X4_findReach_j37 {h : zH} {ad : Nat → Nat} {G : zG} (C : zC h ad zLX 4 G cX4_findReach RX4 wsX4_findReach 3 65) {n : Nat} {r : Int32} {s9 : zS} (hQ : zQ h ad zLX G true (.inl r) s9 none) {rec29 : Int32 → zS → Option (Int32 × zS)} (hrec29 : ∀ (v2 : Int32) (s : zS), rec29 v2 s = some (r, s9) → zV h ad zLX 4 G s 29 [(0, .ref (ad 6)), (2, .int v2)] []) : ∀ (f : Nat) (v2 : Int32) (v3 : Int32) (s : zS), m_X4_findReach_j37 rec29 n f v2 v3 s = some (r, s9) → zV h ad zLX 4 G s 37 [(0, .ref (ad 6)), (2, .int v2), (3, .int v3)] [] := by
  intro f
  induction f with
  | zero => intro v2 v3 s hm; simp [m_X4_findReach_j37] at hm
  | succ f ih =>
    intro v2 v3 s hm
    rw [m_X4_findReach_j37] at hm
    refine z_iload_n C dX4_findReach_37 rfl 2 rfl ?_
    refine z_bipush (v := (16 : Int32)) C dX4_findReach_38 (by decide) ?_
    refine z_icmp_ge (tgt := 80) C dX4_findReach_40 (by decide) (fun c1 => ?_) (fun c1 => ?_)
    · have hm := zIt hm c1
      obtain ⟨x2, e_x2, hm⟩ := zLt_of hm
      refine z_iinc (j := 1) (v := x2) (d := (1 : Int32)) (lv' := [(2, .int x2), (0, .ref (ad 6)), (3, .int v3)]) C dX4_findReach_80 rfl (by decide) e_x2 (by decide) rfl ?_
      refine z_goto (tgt := 29) C dX4_findReach_83 (by decide) ?_
      exact z_sub [1, 0] rfl (hrec29 _ _ hm)
    · have hm := zIf hm c1
      refine z_aload_n C dX4_findReach_43 rfl 0 rfl ?_
      refine z_iload_n C dX4_findReach_44 rfl 2 rfl ?_
      obtain ⟨x3, s4, q_s4, hm⟩ := zBd_of hm
      refine z_cV (vd := false) (Cn := RX4) (k := 6) C 1 [.int v3] [] (c_X4_reach (zC_I C) (zC_st C)  q_s4) gX4_findReach_X4_reach (by decide +kernel) kX6 vc4 rfl rfl dX4_findReach_45 rfl ⟨Nat.le_of_ble_eq_true rfl, Nat.le_of_ble_eq_true rfl⟩ rfl (Nat.le_of_ble_eq_true rfl) ?_
      refine z_iload_n C dX4_findReach_48 rfl 1 rfl ?_
      obtain ⟨x5, s6, q_s6, hm⟩ := zBd_of hm
      refine z_cSN (vd := false) (host := "TaxEngine") C 2 [.int x3, .int v2] [] (c_X7_has (zC_I C) (zC_st C)  q_s6) gX4_findReach_X7_has_n61 eX4_findReach_n61 eX4_findReach_tX7_has eX4_findReach_iX7_has (by decide +kernel) rfl dX4_findReach_49 rfl ⟨Nat.le_of_ble_eq_true rfl, Nat.le_of_ble_eq_true rfl⟩ rfl (Nat.le_of_ble_eq_true rfl) ?_
      refine z_if_eq (tgt := 74) C dX4_findReach_52 (by decide) (fun c7 => ?_) (fun c7 => ?_)
      · have hm := zIt hm c7
        obtain ⟨x8, e_x8, hm⟩ := zLt_of hm
        refine z_iinc (j := 2) (v := x8) (d := (1 : Int32)) (lv' := [(3, .int x8), (0, .ref (ad 6)), (2, .int v2)]) C dX4_findReach_74 rfl (by decide) e_x8 (by decide) rfl ?_
        refine z_goto (tgt := 37) C dX4_findReach_77 (by decide) ?_
        exact z_sub [1, 2, 0] rfl (ih _ _ _ hm)
      · have hm := zIf hm c7
        refine z_aload_n C dX4_findReach_55 rfl 0 rfl ?_
        refine z_getr C kX6 vc4 eX4_findReach_uX4 0 (by decide) rfl eX4_findReach_f9 rfl dX4_findReach_56 ?_
        refine z_iload_n C dX4_findReach_59 rfl 2 rfl ?_
        refine z_aload_n C dX4_findReach_60 rfl 0 rfl ?_
        refine z_iload_n C dX4_findReach_61 rfl 2 rfl ?_
        obtain ⟨x9, s10, q_s10, hm⟩ := zBd_of hm
        refine z_cV (vd := false) (Cn := RX4) (k := 6) C 1 [.int v3] [.int v3, .ref (ad 7)] (c_X4_reach (zC_I C) (zC_st C)  q_s10) gX4_findReach_X4_reach (by decide +kernel) kX6 vc4 rfl rfl dX4_findReach_62 rfl ⟨Nat.le_of_ble_eq_true rfl, Nat.le_of_ble_eq_true rfl⟩ rfl (Nat.le_of_ble_eq_true rfl) ?_
        refine z_aload_n C dX4_findReach_65 rfl 0 rfl ?_
        refine z_iload_n C dX4_findReach_66 rfl 1 rfl ?_
        obtain ⟨x11, s12, q_s12, hm⟩ := zBd_of hm
        refine z_cV (vd := false) (Cn := RX4) (k := 6) C 1 [.int v2] [.int x9, .int v3, .ref (ad 7)] (c_X4_reach (zC_I C) (zC_st C)  q_s12) gX4_findReach_X4_reach (by decide +kernel) kX6 vc4 rfl rfl dX4_findReach_67 rfl ⟨Nat.le_of_ble_eq_true rfl, Nat.le_of_ble_eq_true rfl⟩ rfl (Nat.le_of_ble_eq_true rfl) ?_
        refine z_ior C dX4_findReach_70 ?_
        obtain ⟨x13, s14, q_s14, hm⟩ := zBd_of hm
        refine z_cSN (vd := true) (host := "TaxEngine") C 3 [.ref (ad 7), .int v3, .int (x9 ||| x11)] [] (c_X7_put (zC_I C) (zC_st C) kX7 q_s14) gX4_findReach_X7_put_n73 eX4_findReach_n73 eX4_findReach_tX7_put eX4_findReach_iX7_put (by decide +kernel) rfl dX4_findReach_71 rfl ⟨Nat.le_of_ble_eq_true rfl, Nat.le_of_ble_eq_true rfl⟩ rfl (Nat.le_of_ble_eq_true rfl) ?_
        obtain ⟨x15, e_x15, hm⟩ := zLt_of hm
        refine z_iinc (j := 2) (v := x15) (d := (1 : Int32)) (lv' := [(3, .int x15), (0, .ref (ad 6)), (2, .int v2)]) C dX4_findReach_74 rfl (by decide) e_x15 (by decide) rfl ?_
        refine z_goto (tgt := 37) C dX4_findReach_77 (by decide) ?_
        exact z_sub [1, 2, 0] rfl (ih _ _ _ hm)
set_option maxRecDepth 100000 in
set_option maxHeartbeats 4000000 in
theorem w_X4_findReach_j29 {h : zH} {ad : Nat → Nat} {G : zG} (C : zC h ad zLX 4 G cX4_findReach RX4 wsX4_findReach 3 65) {n : Nat} {r : Int32} {s9 : zS} (hQ : zQ h ad zLX G true (.inl r) s9 none) : ∀ (f : Nat) (v2 : Int32) (s : zS), m_X4_findReach_j29 n f v2 s = some (r, s9) → zV h ad zLX 4 G s 29 [(0, .ref (ad 6)), (2, .int v2)] [] := by
  intro f
  induction f with
  | zero => intro v2 s hm; simp [m_X4_findReach_j29] at hm
  | succ f ih =>
    intro v2 s hm
    rw [m_X4_findReach_j29] at hm
    refine z_iload_n C dX4_findReach_29 rfl 1 rfl ?_
    refine z_bipush (v := (16 : Int32)) C dX4_findReach_30 (by decide) ?_
    refine z_icmp_ge (tgt := 86) C dX4_findReach_32 (by decide) (fun c16 => ?_) (fun c16 => ?_)
    · have hm := zIt hm c16
      exact z_vret0 C hQ (zRt_of hm).1 (zRt_of hm).2 dX4_findReach_86
    · have hm := zIf hm c16
      refine z_iconst (v := (0 : Int32)) C dX4_findReach_35 (by decide) ?_
      refine z_istore_n (y := (0 : Int32)) (lv' := [(3, .int (0 : Int32)), (0, .ref (ad 6)), (2, .int v2)]) C dX4_findReach_36 rfl (by decide) rfl rfl ?_
      exact z_sub [1, 2, 0] rfl (w_X4_findReach_j37 C hQ ih _ _ _ _ hm)
set_option maxRecDepth 100000 in
set_option maxHeartbeats 4000000 in
theorem w_X4_findReach_j2 {h : zH} {ad : Nat → Nat} {G : zG} (C : zC h ad zLX 4 G cX4_findReach RX4 wsX4_findReach 3 65) {n : Nat} {r : Int32} {s9 : zS} (hQ : zQ h ad zLX G true (.inl r) s9 none) : ∀ (f : Nat) (v2 : Int32) (s : zS), m_X4_findReach_j2 n f v2 s = some (r, s9) → zV h ad zLX 4 G s 2 [(0, .ref (ad 6)), (1, .ref (ad 1)), (2, .int v2)] [] := by
  intro f
  induction f with
  | zero => intro v2 s hm; simp [m_X4_findReach_j2] at hm
  | succ f ih =>
    intro v2 s hm
    rw [m_X4_findReach_j2] at hm
    refine z_iload_n C dX4_findReach_2 rfl 2 rfl ?_
    refine z_bipush (v := (16 : Int32)) C dX4_findReach_3 (by decide) ?_
    refine z_icmp_ge (tgt := 27) C dX4_findReach_5 (by decide) (fun c17 => ?_) (fun c17 => ?_)
    · have hm := zIt hm c17
      refine z_iconst (v := (0 : Int32)) C dX4_findReach_27 (by decide) ?_
      refine z_istore_n (y := (0 : Int32)) (lv' := [(2, .int (0 : Int32)), (0, .ref (ad 6)), (1, .ref (ad 1))]) C dX4_findReach_28 rfl (by decide) rfl rfl ?_
      exact z_sub [1, 0] rfl (w_X4_findReach_j29 C hQ  _ _ _ hm)
    · have hm := zIf hm c17
      refine z_aload_n C dX4_findReach_8 rfl 0 rfl ?_
      refine z_getr C kX6 vc4 eX4_findReach_uX4 0 (by decide) rfl eX4_findReach_f9 rfl dX4_findReach_9 ?_
      refine z_iload_n C dX4_findReach_12 rfl 2 rfl ?_
      refine z_aload_n C dX4_findReach_13 rfl 1 rfl ?_
      refine z_iload_n C dX4_findReach_14 rfl 2 rfl ?_
      obtain ⟨x18, s19, q_s19, hm⟩ := zBd_of hm
      refine z_cV (vd := false) (Cn := RX5) (k := 1) C 1 [.int v2] [.int v2, .ref (ad 7)] (c_X5_uses (zC_I C) (zC_st C)  q_s19) gX4_findReach_X5_uses (by decide +kernel) kX1 vc5 rfl rfl dX4_findReach_15 rfl ⟨Nat.le_of_ble_eq_true rfl, Nat.le_of_ble_eq_true rfl⟩ rfl (Nat.le_of_ble_eq_true rfl) ?_
      obtain ⟨x20, s21, q_s21, hm⟩ := zBd_of hm
      refine z_cSN (vd := true) (host := "TaxEngine") C 3 [.ref (ad 7), .int v2, .int x18] [] (c_X7_put (zC_I C) (zC_st C) kX7 q_s21) gX4_findReach_X7_put_n73 eX4_findReach_n73 eX4_findReach_tX7_put eX4_findReach_iX7_put (by decide +kernel) rfl dX4_findReach_18 rfl ⟨Nat.le_of_ble_eq_true rfl, Nat.le_of_ble_eq_true rfl⟩ rfl (Nat.le_of_ble_eq_true rfl) ?_
      obtain ⟨x22, e_x22, hm⟩ := zLt_of hm
      refine z_iinc (j := 2) (v := x22) (d := (1 : Int32)) (lv' := [(2, .int x22), (0, .ref (ad 6)), (1, .ref (ad 1))]) C dX4_findReach_21 rfl (by decide) e_x22 (by decide) rfl ?_
      refine z_goto (tgt := 2) C dX4_findReach_24 (by decide) ?_
      exact z_sub [1, 2, 0] rfl (ih _ _ hm)
set_option maxRecDepth 100000 in
set_option maxHeartbeats 4000000 in
theorem w_X4_findReach_e {h : zH} {ad : Nat → Nat} {G : zG} (C : zC h ad zLX 4 G cX4_findReach RX4 wsX4_findReach 3 65) {n : Nat} {r : Int32} {s9 : zS} (hQ : zQ h ad zLX G true (.inl r) s9 none)  (s : zS) (hm : m_X4_findReach n s = some (r, s9)) : zV h ad zLX 4 G s 0 [(0, .ref (ad 6)), (1, .ref (ad 1))] [] := by
  rw [m_X4_findReach] at hm
  refine z_iconst (v := (0 : Int32)) C dX4_findReach_0 (by decide) ?_
  refine z_istore_n (y := (0 : Int32)) (lv' := [(2, .int (0 : Int32)), (0, .ref (ad 6)), (1, .ref (ad 1))]) C dX4_findReach_1 rfl (by decide) rfl rfl ?_
  exact z_sub [1, 2, 0] rfl (w_X4_findReach_j2 C hQ  _ _ _ hm)
set_option maxRecDepth 100000 in
set_option maxHeartbeats 4000000 in
theorem c_X4_findReach {h : zH} {ad : Nat → Nat} (hI : zI ad zLX.length) (hst : h.1.stackTraces = false) {n : Nat} {s s9 : zS} {r : Int32} (hm : m_X4_findReach n s = some (r, s9)) : zMR h ad zLX true yX4_findReach wsX4_findReach 3 65 [.ref (ad 6), .ref (ad 1)] s (.inl r) s9 :=
  z_start (cc := cX4_findReach) (nL := 4) (ret := none) (own := RX4) (by decide +kernel) rfl rfl hI hst (Nat.le_of_ble_eq_true rfl) (fun G C hQ => w_X4_findReach_e C hQ _ hm)
set_option maxRecDepth 100000 in
theorem eX4_findGroups_uX4 : ∀ w ∈ wsX40, w ∈ wsX4_findGroups := by decide +kernel
set_option maxRecDepth 100000 in
theorem eX4_findGroups_f15 : Cond.fieldLink RX4 15 RX4 (TX4 1).2.1 (TX4 1).2.2.1 ∈ wsX4_findGroups := by decide +kernel
set_option maxRecDepth 100000 in
theorem eX4_findGroups_tX7_put : Cond.static yX7_put ∈ wsX4_findGroups := by decide +kernel
set_option maxRecDepth 100000 in
theorem eX4_findGroups_iX7_put : Cond.initialized yX7_put.cls ∈ wsX4_findGroups := by decide +kernel
set_option maxRecDepth 100000 in
theorem eX4_findGroups_n73 : (RX4, 73, yX7_put, "TaxEngine") ∈ zN := by decide +kernel
set_option maxRecDepth 100000 in
theorem eX4_findGroups_tX7_has : Cond.static yX7_has ∈ wsX4_findGroups := by decide +kernel
set_option maxRecDepth 100000 in
theorem eX4_findGroups_iX7_has : Cond.initialized yX7_has.cls ∈ wsX4_findGroups := by decide +kernel
set_option maxRecDepth 100000 in
theorem eX4_findGroups_n61 : (RX4, 61, yX7_has, "TaxEngine") ∈ zN := by decide +kernel
set_option maxRecDepth 100000 in
theorem eX4_findGroups_tX7_bit : Cond.static yX7_bit ∈ wsX4_findGroups := by decide +kernel
set_option maxRecDepth 100000 in
theorem eX4_findGroups_iX7_bit : Cond.initialized yX7_bit.cls ∈ wsX4_findGroups := by decide +kernel
set_option maxRecDepth 100000 in
theorem eX4_findGroups_n77 : (RX4, 77, yX7_bit, "TaxEngine") ∈ zN := by decide +kernel
set_option maxRecDepth 100000 in
set_option maxHeartbeats 4000000 in
theorem w_X4_findGroups_j15 {h : zH} {ad : Nat → Nat} {G : zG} (C : zC h ad zLX 4 G cX4_findGroups RX4 wsX4_findGroups 2 42) {n : Nat} {r : Int32} {s9 : zS} (hQ : zQ h ad zLX G true (.inl r) s9 none) {rec2 : Int32 → zS → Option (Int32 × zS)} (hrec2 : ∀ (v1 : Int32) (s : zS), rec2 v1 s = some (r, s9) → zV h ad zLX 4 G s 2 [(0, .ref (ad 6)), (1, .int v1)] []) : ∀ (f : Nat) (v1 : Int32) (v2 : Int32) (v3 : Int32) (s : zS), m_X4_findGroups_j15 rec2 n f v1 v2 v3 s = some (r, s9) → zV h ad zLX 4 G s 15 [(0, .ref (ad 6)), (1, .int v1), (2, .int v2), (3, .int v3)] [] := by
  intro f
  induction f with
  | zero => intro v1 v2 v3 s hm; simp [m_X4_findGroups_j15] at hm
  | succ f ih =>
    intro v1 v2 v3 s hm
    rw [m_X4_findGroups_j15] at hm
    refine z_iload_n C dX4_findGroups_15 rfl 3 rfl ?_
    refine z_bipush (v := (16 : Int32)) C dX4_findGroups_16 (by decide) ?_
    refine z_icmp_ge (tgt := 58) C dX4_findGroups_18 (by decide) (fun c1 => ?_) (fun c1 => ?_)
    · have hm := zIt hm c1
      refine z_aload_n C dX4_findGroups_58 rfl 0 rfl ?_
      refine z_getr C kX6 vc4 eX4_findGroups_uX4 1 (by decide) rfl eX4_findGroups_f15 rfl dX4_findGroups_59 ?_
      refine z_iload_n C dX4_findGroups_62 rfl 1 rfl ?_
      refine z_iload_n C dX4_findGroups_63 rfl 2 rfl ?_
      obtain ⟨x2, s3, q_s3, hm⟩ := zBd_of hm
      refine z_cSN (vd := true) (host := "TaxEngine") C 3 [.ref (ad 8), .int v1, .int v2] [] (c_X7_put (zC_I C) (zC_st C) kX8 q_s3) gX4_findGroups_X7_put_n73 eX4_findGroups_n73 eX4_findGroups_tX7_put eX4_findGroups_iX7_put (by decide +kernel) rfl dX4_findGroups_64 rfl ⟨Nat.le_of_ble_eq_true rfl, Nat.le_of_ble_eq_true rfl⟩ rfl (Nat.le_of_ble_eq_true rfl) ?_
      obtain ⟨x4, e_x4, hm⟩ := zLt_of hm
      refine z_iinc (j := 1) (v := x4) (d := (1 : Int32)) (lv' := [(1, .int x4), (0, .ref (ad 6)), (2, .int v2), (3, .int v3)]) C dX4_findGroups_67 rfl (by decide) e_x4 (by decide) rfl ?_
      refine z_goto (tgt := 2) C dX4_findGroups_70 (by decide) ?_
      exact z_sub [1, 0] rfl (hrec2 _ _ hm)
    · have hm := zIf hm c1
      refine z_aload_n C dX4_findGroups_21 rfl 0 rfl ?_
      refine z_iload_n C dX4_findGroups_22 rfl 1 rfl ?_
      obtain ⟨x5, s6, q_s6, hm⟩ := zBd_of hm
      refine z_cV (vd := false) (Cn := RX4) (k := 6) C 1 [.int v1] [] (c_X4_reach (zC_I C) (zC_st C)  q_s6) gX4_findGroups_X4_reach (by decide +kernel) kX6 vc4 rfl rfl dX4_findGroups_23 rfl ⟨Nat.le_of_ble_eq_true rfl, Nat.le_of_ble_eq_true rfl⟩ rfl (Nat.le_of_ble_eq_true rfl) ?_
      refine z_iload_n C dX4_findGroups_26 rfl 3 rfl ?_
      obtain ⟨x7, s8, q_s8, hm⟩ := zBd_of hm
      refine z_cSN (vd := false) (host := "TaxEngine") C 2 [.int x5, .int v3] [] (c_X7_has (zC_I C) (zC_st C)  q_s8) gX4_findGroups_X7_has_n61 eX4_findGroups_n61 eX4_findGroups_tX7_has eX4_findGroups_iX7_has (by decide +kernel) rfl dX4_findGroups_27 rfl ⟨Nat.le_of_ble_eq_true rfl, Nat.le_of_ble_eq_true rfl⟩ rfl (Nat.le_of_ble_eq_true rfl) ?_
      refine z_if_eq (tgt := 52) C dX4_findGroups_30 (by decide) (fun c9 => ?_) (fun c9 => ?_)
      · have hm := zIt hm c9
        obtain ⟨x10, e_x10, hm⟩ := zLt_of hm
        refine z_iinc (j := 3) (v := x10) (d := (1 : Int32)) (lv' := [(3, .int x10), (0, .ref (ad 6)), (1, .int v1), (2, .int v2)]) C dX4_findGroups_52 rfl (by decide) e_x10 (by decide) rfl ?_
        refine z_goto (tgt := 15) C dX4_findGroups_55 (by decide) ?_
        exact z_sub [1, 2, 3, 0] rfl (ih _ _ _ _ hm)
      · have hm := zIf hm c9
        refine z_aload_n C dX4_findGroups_33 rfl 0 rfl ?_
        refine z_iload_n C dX4_findGroups_34 rfl 3 rfl ?_
        obtain ⟨x11, s12, q_s12, hm⟩ := zBd_of hm
        refine z_cV (vd := false) (Cn := RX4) (k := 6) C 1 [.int v3] [] (c_X4_reach (zC_I C) (zC_st C)  q_s12) gX4_findGroups_X4_reach (by decide +kernel) kX6 vc4 rfl rfl dX4_findGroups_35 rfl ⟨Nat.le_of_ble_eq_true rfl, Nat.le_of_ble_eq_true rfl⟩ rfl (Nat.le_of_ble_eq_true rfl) ?_
        refine z_iload_n C dX4_findGroups_38 rfl 1 rfl ?_
        obtain ⟨x13, s14, q_s14, hm⟩ := zBd_of hm
        refine z_cSN (vd := false) (host := "TaxEngine") C 2 [.int x11, .int v1] [] (c_X7_has (zC_I C) (zC_st C)  q_s14) gX4_findGroups_X7_has_n61 eX4_findGroups_n61 eX4_findGroups_tX7_has eX4_findGroups_iX7_has (by decide +kernel) rfl dX4_findGroups_39 rfl ⟨Nat.le_of_ble_eq_true rfl, Nat.le_of_ble_eq_true rfl⟩ rfl (Nat.le_of_ble_eq_true rfl) ?_
        refine z_if_eq (tgt := 52) C dX4_findGroups_42 (by decide) (fun c15 => ?_) (fun c15 => ?_)
        · have hm := zIt hm c15
          obtain ⟨x16, e_x16, hm⟩ := zLt_of hm
          refine z_iinc (j := 3) (v := x16) (d := (1 : Int32)) (lv' := [(3, .int x16), (0, .ref (ad 6)), (1, .int v1), (2, .int v2)]) C dX4_findGroups_52 rfl (by decide) e_x16 (by decide) rfl ?_
          refine z_goto (tgt := 15) C dX4_findGroups_55 (by decide) ?_
          exact z_sub [1, 2, 3, 0] rfl (ih _ _ _ _ hm)
        · have hm := zIf hm c15
          refine z_iload_n C dX4_findGroups_45 rfl 2 rfl ?_
          refine z_iload_n C dX4_findGroups_46 rfl 3 rfl ?_
          obtain ⟨x17, s18, q_s18, hm⟩ := zBd_of hm
          refine z_cSN (vd := false) (host := "TaxEngine") C 1 [.int v3] [.int v2] (c_X7_bit (zC_I C) (zC_st C)  q_s18) gX4_findGroups_X7_bit_n77 eX4_findGroups_n77 eX4_findGroups_tX7_bit eX4_findGroups_iX7_bit (by decide +kernel) rfl dX4_findGroups_47 rfl ⟨Nat.le_of_ble_eq_true rfl, Nat.le_of_ble_eq_true rfl⟩ rfl (Nat.le_of_ble_eq_true rfl) ?_
          refine z_ior C dX4_findGroups_50 ?_
          obtain ⟨x19, e_x19, hm⟩ := zLt_of hm
          refine z_istore_n (y := x19) (lv' := [(2, .int x19), (0, .ref (ad 6)), (1, .int v1), (3, .int v3)]) C dX4_findGroups_51 rfl (by decide) e_x19 rfl ?_
          obtain ⟨x20, e_x20, hm⟩ := zLt_of hm
          refine z_iinc (j := 3) (v := x20) (d := (1 : Int32)) (lv' := [(3, .int x20), (2, .int x19), (0, .ref (ad 6)), (1, .int v1)]) C dX4_findGroups_52 rfl (by decide) e_x20 (by decide) rfl ?_
          refine z_goto (tgt := 15) C dX4_findGroups_55 (by decide) ?_
          exact z_sub [2, 3, 1, 0] rfl (ih _ _ _ _ hm)
set_option maxRecDepth 100000 in
set_option maxHeartbeats 4000000 in
theorem w_X4_findGroups_j2 {h : zH} {ad : Nat → Nat} {G : zG} (C : zC h ad zLX 4 G cX4_findGroups RX4 wsX4_findGroups 2 42) {n : Nat} {r : Int32} {s9 : zS} (hQ : zQ h ad zLX G true (.inl r) s9 none) : ∀ (f : Nat) (v1 : Int32) (s : zS), m_X4_findGroups_j2 n f v1 s = some (r, s9) → zV h ad zLX 4 G s 2 [(0, .ref (ad 6)), (1, .int v1)] [] := by
  intro f
  induction f with
  | zero => intro v1 s hm; simp [m_X4_findGroups_j2] at hm
  | succ f ih =>
    intro v1 s hm
    rw [m_X4_findGroups_j2] at hm
    refine z_iload_n C dX4_findGroups_2 rfl 1 rfl ?_
    refine z_bipush (v := (16 : Int32)) C dX4_findGroups_3 (by decide) ?_
    refine z_icmp_ge (tgt := 73) C dX4_findGroups_5 (by decide) (fun c21 => ?_) (fun c21 => ?_)
    · have hm := zIt hm c21
      exact z_vret0 C hQ (zRt_of hm).1 (zRt_of hm).2 dX4_findGroups_73
    · have hm := zIf hm c21
      refine z_iload_n C dX4_findGroups_8 rfl 1 rfl ?_
      obtain ⟨x22, s23, q_s23, hm⟩ := zBd_of hm
      refine z_cSN (vd := false) (host := "TaxEngine") C 1 [.int v1] [] (c_X7_bit (zC_I C) (zC_st C)  q_s23) gX4_findGroups_X7_bit_n77 eX4_findGroups_n77 eX4_findGroups_tX7_bit eX4_findGroups_iX7_bit (by decide +kernel) rfl dX4_findGroups_9 rfl ⟨Nat.le_of_ble_eq_true rfl, Nat.le_of_ble_eq_true rfl⟩ rfl (Nat.le_of_ble_eq_true rfl) ?_
      refine z_istore_n (y := x22) (lv' := [(2, .int x22), (0, .ref (ad 6)), (1, .int v1)]) C dX4_findGroups_12 rfl (by decide) rfl rfl ?_
      refine z_iconst (v := (0 : Int32)) C dX4_findGroups_13 (by decide) ?_
      refine z_istore_n (y := (0 : Int32)) (lv' := [(3, .int (0 : Int32)), (2, .int x22), (0, .ref (ad 6)), (1, .int v1)]) C dX4_findGroups_14 rfl (by decide) rfl rfl ?_
      exact z_sub [2, 3, 1, 0] rfl (w_X4_findGroups_j15 C hQ ih _ _ _ _ _ hm)
set_option maxRecDepth 100000 in
set_option maxHeartbeats 4000000 in
theorem w_X4_findGroups_e {h : zH} {ad : Nat → Nat} {G : zG} (C : zC h ad zLX 4 G cX4_findGroups RX4 wsX4_findGroups 2 42) {n : Nat} {r : Int32} {s9 : zS} (hQ : zQ h ad zLX G true (.inl r) s9 none)  (s : zS) (hm : m_X4_findGroups n s = some (r, s9)) : zV h ad zLX 4 G s 0 [(0, .ref (ad 6))] [] := by
  rw [m_X4_findGroups] at hm
  refine z_iconst (v := (0 : Int32)) C dX4_findGroups_0 (by decide) ?_
  refine z_istore_n (y := (0 : Int32)) (lv' := [(1, .int (0 : Int32)), (0, .ref (ad 6))]) C dX4_findGroups_1 rfl (by decide) rfl rfl ?_
  exact z_sub [1, 0] rfl (w_X4_findGroups_j2 C hQ  _ _ _ hm)
set_option maxRecDepth 100000 in
set_option maxHeartbeats 4000000 in
theorem c_X4_findGroups {h : zH} {ad : Nat → Nat} (hI : zI ad zLX.length) (hst : h.1.stackTraces = false) {n : Nat} {s s9 : zS} {r : Int32} (hm : m_X4_findGroups n s = some (r, s9)) : zMR h ad zLX true yX4_findGroups wsX4_findGroups 2 42 [.ref (ad 6)] s (.inl r) s9 :=
  z_start (cc := cX4_findGroups) (nL := 4) (ret := none) (own := RX4) (by decide +kernel) rfl rfl hI hst (Nat.le_of_ble_eq_true rfl) (fun G C hQ => w_X4_findGroups_e C hQ _ hm)
set_option maxRecDepth 100000 in
theorem eX4_groupOf_uX4 : ∀ w ∈ wsX40, w ∈ wsX4_groupOf := by decide +kernel
set_option maxRecDepth 100000 in
theorem eX4_groupOf_f15 : Cond.fieldLink RX4 15 RX4 (TX4 1).2.1 (TX4 1).2.2.1 ∈ wsX4_groupOf := by decide +kernel
set_option maxRecDepth 100000 in
theorem eX4_groupOf_tX7_at : Cond.static yX7_at ∈ wsX4_groupOf := by decide +kernel
set_option maxRecDepth 100000 in
theorem eX4_groupOf_iX7_at : Cond.initialized yX7_at.cls ∈ wsX4_groupOf := by decide +kernel
set_option maxRecDepth 100000 in
theorem eX4_groupOf_n55 : (RX4, 55, yX7_at, "TaxEngine") ∈ zN := by decide +kernel
set_option maxRecDepth 100000 in
set_option maxHeartbeats 4000000 in
theorem w_X4_groupOf_e {h : zH} {ad : Nat → Nat} {G : zG} (C : zC h ad zLX 2 G cX4_groupOf RX4 wsX4_groupOf 1 21) {n : Nat} {r : Int32} {s9 : zS} (hQ : zQ h ad zLX G false (.inl r) s9 (some .int)) {v1 : Int32} (s : zS) (hm : m_X4_groupOf n v1 s = some (r, s9)) : zV h ad zLX 2 G s 0 [(0, .ref (ad 6)), (1, .int v1)] [] := by
  rw [m_X4_groupOf] at hm
  refine z_aload_n C dX4_groupOf_0 rfl 0 rfl ?_
  refine z_getr C kX6 vc4 eX4_groupOf_uX4 1 (by decide) rfl eX4_groupOf_f15 rfl dX4_groupOf_1 ?_
  refine z_iload_n C dX4_groupOf_4 rfl 1 rfl ?_
  obtain ⟨x1, s2, q_s2, hm⟩ := zBd_of hm
  refine z_cSN (vd := false) (host := "TaxEngine") C 2 [.ref (ad 8), .int v1] [] (c_X7_at (zC_I C) (zC_st C) kX8 q_s2) gX4_groupOf_X7_at_n55 eX4_groupOf_n55 eX4_groupOf_tX7_at eX4_groupOf_iX7_at (by decide +kernel) rfl dX4_groupOf_5 rfl ⟨Nat.le_of_ble_eq_true rfl, Nat.le_of_ble_eq_true rfl⟩ rfl (Nat.le_of_ble_eq_true rfl) ?_
  exact z_iret0 C hQ (zRt_of hm).1 (zRt_of hm).2 dX4_groupOf_8
set_option maxRecDepth 100000 in
set_option maxHeartbeats 4000000 in
theorem c_X4_groupOf {h : zH} {ad : Nat → Nat} (hI : zI ad zLX.length) (hst : h.1.stackTraces = false) {n : Nat} {v1 : Int32} {s s9 : zS} {r : Int32} (hm : m_X4_groupOf n v1 s = some (r, s9)) : zMR h ad zLX false yX4_groupOf wsX4_groupOf 1 21 [.ref (ad 6), .int v1] s (.inl r) s9 :=
  z_start (cc := cX4_groupOf) (nL := 2) (ret := (some .int)) (own := RX4) (by decide +kernel) rfl rfl hI hst (Nat.le_of_ble_eq_true rfl) (fun G C hQ => w_X4_groupOf_e C hQ _ hm)
set_option maxRecDepth 100000 in
theorem eX4_isReady_uX4 : ∀ w ∈ wsX40, w ∈ wsX4_isReady := by decide +kernel
set_option maxRecDepth 100000 in
theorem eX4_isReady_f32 : Cond.fieldLink RX4 32 RX4 (TX4 4).2.1 (TX4 4).2.2.1 ∈ wsX4_isReady := by decide +kernel
set_option maxRecDepth 100000 in
theorem eX4_isReady_tX7_has : Cond.static yX7_has ∈ wsX4_isReady := by decide +kernel
set_option maxRecDepth 100000 in
theorem eX4_isReady_iX7_has : Cond.initialized yX7_has.cls ∈ wsX4_isReady := by decide +kernel
set_option maxRecDepth 100000 in
theorem eX4_isReady_n61 : (RX4, 61, yX7_has, "TaxEngine") ∈ zN := by decide +kernel
set_option maxRecDepth 100000 in
set_option maxHeartbeats 4000000 in
theorem w_X4_isReady_e {h : zH} {ad : Nat → Nat} {G : zG} (C : zC h ad zLX 2 G cX4_isReady RX4 wsX4_isReady 2 42) {n : Nat} {r : Int32} {s9 : zS} (hQ : zQ h ad zLX G false (.inl r) s9 (some .boolean)) {v1 : Int32} (s : zS) (hm : m_X4_isReady n v1 s = some (r, s9)) : zV h ad zLX 2 G s 0 [(0, .ref (ad 6)), (1, .int v1)] [] := by
  rw [m_X4_isReady] at hm
  refine z_aload_n C dX4_isReady_0 rfl 0 rfl ?_
  refine z_get C kX6 vc4 eX4_isReady_uX4 4 (by decide) rfl eX4_isReady_f32 rfl dX4_isReady_1 ?_
  refine z_iload_n C dX4_isReady_4 rfl 1 rfl ?_
  obtain ⟨x1, s2, q_s2, hm⟩ := zBd_of hm
  refine z_cSN (vd := false) (host := "TaxEngine") C 2 [.int (s 6 4), .int v1] [] (c_X7_has (zC_I C) (zC_st C)  q_s2) gX4_isReady_X7_has_n61 eX4_isReady_n61 eX4_isReady_tX7_has eX4_isReady_iX7_has (by decide +kernel) rfl dX4_isReady_5 rfl ⟨Nat.le_of_ble_eq_true rfl, Nat.le_of_ble_eq_true rfl⟩ rfl (Nat.le_of_ble_eq_true rfl) ?_
  refine z_if_ne (tgt := 38) C dX4_isReady_8 (by decide) (fun c3 => ?_) (fun c3 => ?_)
  · have hm := zIf hm c3
    refine z_iconst (v := (0 : Int32)) C dX4_isReady_38 (by decide) ?_
    exact z_zret0 C hQ (zRt_of hm).1 (zRt_of hm).2 (by decide) dX4_isReady_39
  · have hm := zIt hm c3
    refine z_aload_n C dX4_isReady_11 rfl 0 rfl ?_
    refine z_iload_n C dX4_isReady_12 rfl 1 rfl ?_
    obtain ⟨x4, s5, q_s5, hm⟩ := zBd_of hm
    refine z_cV (vd := false) (Cn := RX4) (k := 6) C 1 [.int v1] [] (c_X4_reach (zC_I C) (zC_st C)  q_s5) gX4_isReady_X4_reach (by decide +kernel) kX6 vc4 rfl rfl dX4_isReady_13 rfl ⟨Nat.le_of_ble_eq_true rfl, Nat.le_of_ble_eq_true rfl⟩ rfl (Nat.le_of_ble_eq_true rfl) ?_
    refine z_aload_n C dX4_isReady_16 rfl 0 rfl ?_
    refine z_iload_n C dX4_isReady_17 rfl 1 rfl ?_
    obtain ⟨x6, s7, q_s7, hm⟩ := zBd_of hm
    refine z_cV (vd := false) (Cn := RX4) (k := 6) C 1 [.int v1] [.int x4] (c_X4_groupOf (zC_I C) (zC_st C)  q_s7) gX4_isReady_X4_groupOf (by decide +kernel) kX6 vc4 rfl rfl dX4_isReady_18 rfl ⟨Nat.le_of_ble_eq_true rfl, Nat.le_of_ble_eq_true rfl⟩ rfl (Nat.le_of_ble_eq_true rfl) ?_
    refine z_iconst (v := (-1 : Int32)) C dX4_isReady_21 (by decide) ?_
    refine z_ixor C dX4_isReady_22 ?_
    refine z_iand C dX4_isReady_23 ?_
    refine z_aload_n C dX4_isReady_24 rfl 0 rfl ?_
    refine z_get C kX6 vc4 eX4_isReady_uX4 4 (by decide) rfl eX4_isReady_f32 rfl dX4_isReady_25 ?_
    refine z_iconst (v := (-1 : Int32)) C dX4_isReady_28 (by decide) ?_
    refine z_ixor C dX4_isReady_29 ?_
    refine z_iand C dX4_isReady_30 ?_
    refine z_if_ne (tgt := 38) C dX4_isReady_31 (by decide) (fun c8 => ?_) (fun c8 => ?_)
    · have hm := zIf hm c8
      refine z_iconst (v := (0 : Int32)) C dX4_isReady_38 (by decide) ?_
      exact z_zret0 C hQ (zRt_of hm).1 (zRt_of hm).2 (by decide) dX4_isReady_39
    · have hm := zIt hm c8
      refine z_iconst (v := (1 : Int32)) C dX4_isReady_34 (by decide) ?_
      refine z_goto (tgt := 39) C dX4_isReady_35 (by decide) ?_
      exact z_zret0 C hQ (zRt_of hm).1 (zRt_of hm).2 (by decide) dX4_isReady_39
set_option maxRecDepth 100000 in
set_option maxHeartbeats 4000000 in
theorem c_X4_isReady {h : zH} {ad : Nat → Nat} (hI : zI ad zLX.length) (hst : h.1.stackTraces = false) {n : Nat} {v1 : Int32} {s s9 : zS} {r : Int32} (hm : m_X4_isReady n v1 s = some (r, s9)) : zMR h ad zLX false yX4_isReady wsX4_isReady 2 42 [.ref (ad 6), .int v1] s (.inl r) s9 :=
  z_start (cc := cX4_isReady) (nL := 2) (ret := (some .boolean)) (own := RX4) (by decide +kernel) rfl rfl hI hst (Nat.le_of_ble_eq_true rfl) (fun G C hQ => w_X4_isReady_e C hQ _ hm)
set_option maxRecDepth 100000 in
theorem eX4_isCircular_tX7_has : Cond.static yX7_has ∈ wsX4_isCircular := by decide +kernel
set_option maxRecDepth 100000 in
theorem eX4_isCircular_iX7_has : Cond.initialized yX7_has.cls ∈ wsX4_isCircular := by decide +kernel
set_option maxRecDepth 100000 in
theorem eX4_isCircular_n61 : (RX4, 61, yX7_has, "TaxEngine") ∈ zN := by decide +kernel
set_option maxRecDepth 100000 in
set_option maxHeartbeats 4000000 in
theorem w_X4_isCircular_e {h : zH} {ad : Nat → Nat} {G : zG} (C : zC h ad zLX 2 G cX4_isCircular RX4 wsX4_isCircular 2 42) {n : Nat} {r : Int32} {s9 : zS} (hQ : zQ h ad zLX G false (.inl r) s9 (some .boolean)) {v1 : Int32} (s : zS) (hm : m_X4_isCircular n v1 s = some (r, s9)) : zV h ad zLX 2 G s 0 [(0, .ref (ad 6)), (1, .int v1)] [] := by
  rw [m_X4_isCircular] at hm
  refine z_aload_n C dX4_isCircular_0 rfl 0 rfl ?_
  refine z_iload_n C dX4_isCircular_1 rfl 1 rfl ?_
  obtain ⟨x1, s2, q_s2, hm⟩ := zBd_of hm
  refine z_cV (vd := false) (Cn := RX4) (k := 6) C 1 [.int v1] [] (c_X4_reach (zC_I C) (zC_st C)  q_s2) gX4_isCircular_X4_reach (by decide +kernel) kX6 vc4 rfl rfl dX4_isCircular_2 rfl ⟨Nat.le_of_ble_eq_true rfl, Nat.le_of_ble_eq_true rfl⟩ rfl (Nat.le_of_ble_eq_true rfl) ?_
  refine z_iload_n C dX4_isCircular_5 rfl 1 rfl ?_
  obtain ⟨x3, s4, q_s4, hm⟩ := zBd_of hm
  refine z_cSN (vd := false) (host := "TaxEngine") C 2 [.int x1, .int v1] [] (c_X7_has (zC_I C) (zC_st C)  q_s4) gX4_isCircular_X7_has_n61 eX4_isCircular_n61 eX4_isCircular_tX7_has eX4_isCircular_iX7_has (by decide +kernel) rfl dX4_isCircular_6 rfl ⟨Nat.le_of_ble_eq_true rfl, Nat.le_of_ble_eq_true rfl⟩ rfl (Nat.le_of_ble_eq_true rfl) ?_
  obtain ⟨g5, hm⟩ := zGd_of hm
  exact z_zret0 C hQ (zRt_of hm).1 (zRt_of hm).2 g5 dX4_isCircular_9
set_option maxRecDepth 100000 in
set_option maxHeartbeats 4000000 in
theorem c_X4_isCircular {h : zH} {ad : Nat → Nat} (hI : zI ad zLX.length) (hst : h.1.stackTraces = false) {n : Nat} {v1 : Int32} {s s9 : zS} {r : Int32} (hm : m_X4_isCircular n v1 s = some (r, s9)) : zMR h ad zLX false yX4_isCircular wsX4_isCircular 2 42 [.ref (ad 6), .int v1] s (.inl r) s9 :=
  z_start (cc := cX4_isCircular) (nL := 2) (ret := (some .boolean)) (own := RX4) (by decide +kernel) rfl rfl hI hst (Nat.le_of_ble_eq_true rfl) (fun G C hQ => w_X4_isCircular_e C hQ _ hm)
set_option maxRecDepth 100000 in
theorem eX4_place_uX4 : ∀ w ∈ wsX40, w ∈ wsX4_place := by decide +kernel
set_option maxRecDepth 100000 in
theorem eX4_place_f18 : Cond.fieldLink RX4 18 RX4 (TX4 2).2.1 (TX4 2).2.2.1 ∈ wsX4_place := by decide +kernel
set_option maxRecDepth 100000 in
theorem eX4_place_f28 : Cond.fieldLink RX4 28 RX4 (TX4 3).2.1 (TX4 3).2.2.1 ∈ wsX4_place := by decide +kernel
set_option maxRecDepth 100000 in
theorem eX4_place_tX7_put : Cond.static yX7_put ∈ wsX4_place := by decide +kernel
set_option maxRecDepth 100000 in
theorem eX4_place_iX7_put : Cond.initialized yX7_put.cls ∈ wsX4_place := by decide +kernel
set_option maxRecDepth 100000 in
theorem eX4_place_n73 : (RX4, 73, yX7_put, "TaxEngine") ∈ zN := by decide +kernel
set_option maxRecDepth 100000 in
theorem eX4_place_f32 : Cond.fieldLink RX4 32 RX4 (TX4 4).2.1 (TX4 4).2.2.1 ∈ wsX4_place := by decide +kernel
set_option maxRecDepth 100000 in
theorem eX4_place_tX7_bit : Cond.static yX7_bit ∈ wsX4_place := by decide +kernel
set_option maxRecDepth 100000 in
theorem eX4_place_iX7_bit : Cond.initialized yX7_bit.cls ∈ wsX4_place := by decide +kernel
set_option maxRecDepth 100000 in
theorem eX4_place_n77 : (RX4, 77, yX7_bit, "TaxEngine") ∈ zN := by decide +kernel
set_option maxRecDepth 100000 in
set_option maxHeartbeats 4000000 in
theorem w_X4_place_e {h : zH} {ad : Nat → Nat} {G : zG} (C : zC h ad zLX 2 G cX4_place RX4 wsX4_place 1 22) {n : Nat} {r : Int32} {s9 : zS} (hQ : zQ h ad zLX G true (.inl r) s9 none) {v1 : Int32} (s : zS) (hm : m_X4_place n v1 s = some (r, s9)) : zV h ad zLX 2 G s 0 [(0, .ref (ad 6)), (1, .int v1)] [] := by
  rw [m_X4_place] at hm
  refine z_aload_n C dX4_place_0 rfl 0 rfl ?_
  refine z_getr C kX6 vc4 eX4_place_uX4 2 (by decide) rfl eX4_place_f18 rfl dX4_place_1 ?_
  refine z_aload_n C dX4_place_4 rfl 0 rfl ?_
  refine z_get C kX6 vc4 eX4_place_uX4 3 (by decide) rfl eX4_place_f28 rfl dX4_place_5 ?_
  refine z_iload_n C dX4_place_8 rfl 1 rfl ?_
  obtain ⟨x1, s2, q_s2, hm⟩ := zBd_of hm
  refine z_cSN (vd := true) (host := "TaxEngine") C 3 [.ref (ad 9), .int (s 6 3), .int v1] [] (c_X7_put (zC_I C) (zC_st C) kX9 q_s2) gX4_place_X7_put_n73 eX4_place_n73 eX4_place_tX7_put eX4_place_iX7_put (by decide +kernel) rfl dX4_place_9 rfl ⟨Nat.le_of_ble_eq_true rfl, Nat.le_of_ble_eq_true rfl⟩ rfl (Nat.le_of_ble_eq_true rfl) ?_
  refine z_aload_n C dX4_place_12 rfl 0 rfl ?_
  refine z_dup C dX4_place_13 rfl ?_
  refine z_get C kX6 vc4 eX4_place_uX4 3 (by decide) rfl eX4_place_f28 rfl dX4_place_14 ?_
  refine z_iconst (v := (1 : Int32)) C dX4_place_17 (by decide) ?_
  refine z_iadd C dX4_place_18 ?_
  obtain ⟨s3, e_s3, hm⟩ := zLt_of hm
  refine z_put C kX6 vc4 eX4_place_uX4 tyX4_ok nmX4 3 (by decide) rfl eX4_place_f28 rfl rfl rfl e_s3 dX4_place_19 ?_
  refine z_aload_n C dX4_place_22 rfl 0 rfl ?_
  refine z_dup C dX4_place_23 rfl ?_
  refine z_get C kX6 vc4 eX4_place_uX4 4 (by decide) rfl eX4_place_f32 rfl dX4_place_24 ?_
  refine z_iload_n C dX4_place_27 rfl 1 rfl ?_
  obtain ⟨x4, s5, q_s5, hm⟩ := zBd_of hm
  refine z_cSN (vd := false) (host := "TaxEngine") C 1 [.int v1] [.int (s3 6 4), .ref (ad 6)] (c_X7_bit (zC_I C) (zC_st C)  q_s5) gX4_place_X7_bit_n77 eX4_place_n77 eX4_place_tX7_bit eX4_place_iX7_bit (by decide +kernel) rfl dX4_place_28 rfl ⟨Nat.le_of_ble_eq_true rfl, Nat.le_of_ble_eq_true rfl⟩ rfl (Nat.le_of_ble_eq_true rfl) ?_
  refine z_ior C dX4_place_31 ?_
  obtain ⟨s6, e_s6, hm⟩ := zLt_of hm
  refine z_put C kX6 vc4 eX4_place_uX4 tyX4_ok nmX4 4 (by decide) rfl eX4_place_f32 rfl rfl rfl e_s6 dX4_place_32 ?_
  exact z_vret0 C hQ (zRt_of hm).1 (zRt_of hm).2 dX4_place_35
set_option maxRecDepth 100000 in
set_option maxHeartbeats 4000000 in
theorem c_X4_place {h : zH} {ad : Nat → Nat} (hI : zI ad zLX.length) (hst : h.1.stackTraces = false) {n : Nat} {v1 : Int32} {s s9 : zS} {r : Int32} (hm : m_X4_place n v1 s = some (r, s9)) : zMR h ad zLX true yX4_place wsX4_place 1 22 [.ref (ad 6), .int v1] s (.inl r) s9 :=
  z_start (cc := cX4_place) (nL := 2) (ret := none) (own := RX4) (by decide +kernel) rfl rfl hI hst (Nat.le_of_ble_eq_true rfl) (fun G C hQ => w_X4_place_e C hQ _ hm)
set_option maxRecDepth 100000 in
theorem eX4_onlyLimit_tX7_has : Cond.static yX7_has ∈ wsX4_onlyLimit := by decide +kernel
set_option maxRecDepth 100000 in
theorem eX4_onlyLimit_iX7_has : Cond.initialized yX7_has.cls ∈ wsX4_onlyLimit := by decide +kernel
set_option maxRecDepth 100000 in
theorem eX4_onlyLimit_n61 : (RX4, 61, yX7_has, "TaxEngine") ∈ zN := by decide +kernel
set_option maxRecDepth 100000 in
set_option maxHeartbeats 4000000 in
theorem w_X4_onlyLimit_j5 {h : zH} {ad : Nat → Nat} {G : zG} (C : zC h ad zLX 5 G cX4_onlyLimit RX4 wsX4_onlyLimit 2 42) {n : Nat} {r : Int32} {s9 : zS} (hQ : zQ h ad zLX G false (.inl r) s9 (some .int)) : ∀ (f : Nat) (v2 : Int32) (v3 : Int32) (v4 : Int32) (s : zS), m_X4_onlyLimit_j5 n f v2 v3 v4 s = some (r, s9) → zV h ad zLX 5 G s 5 [(1, .ref (ad 1)), (2, .int v2), (3, .int v3), (4, .int v4)] [] := by
  intro f
  induction f with
  | zero => intro v2 v3 v4 s hm; simp [m_X4_onlyLimit_j5] at hm
  | succ f ih =>
    intro v2 v3 v4 s hm
    rw [m_X4_onlyLimit_j5] at hm
    refine z_iload C dX4_onlyLimit_5 3 rfl ?_
    refine z_bipush (v := (16 : Int32)) C dX4_onlyLimit_7 (by decide) ?_
    refine z_icmp_ge (tgt := 48) C dX4_onlyLimit_9 (by decide) (fun c1 => ?_) (fun c1 => ?_)
    · have hm := zIt hm c1
      refine z_iload_n C dX4_onlyLimit_48 rfl 2 rfl ?_
      exact z_iret0 C hQ (zRt_of hm).1 (zRt_of hm).2 dX4_onlyLimit_49
    · have hm := zIf hm c1
      refine z_iload_n C dX4_onlyLimit_12 rfl 1 rfl ?_
      refine z_iload C dX4_onlyLimit_13 3 rfl ?_
      obtain ⟨x2, s3, q_s3, hm⟩ := zBd_of hm
      refine z_cSN (vd := false) (host := "TaxEngine") C 2 [.int v2, .int v4] [] (c_X7_has (zC_I C) (zC_st C)  q_s3) gX4_onlyLimit_X7_has_n61 eX4_onlyLimit_n61 eX4_onlyLimit_tX7_has eX4_onlyLimit_iX7_has (by decide +kernel) rfl dX4_onlyLimit_15 rfl ⟨Nat.le_of_ble_eq_true rfl, Nat.le_of_ble_eq_true rfl⟩ rfl (Nat.le_of_ble_eq_true rfl) ?_
      refine z_if_eq (tgt := 42) C dX4_onlyLimit_18 (by decide) (fun c4 => ?_) (fun c4 => ?_)
      · have hm := zIt hm c4
        obtain ⟨x5, e_x5, hm⟩ := zLt_of hm
        refine z_iinc (j := 3) (v := x5) (d := (1 : Int32)) (lv' := [(4, .int x5), (1, .ref (ad 1)), (2, .int v2), (3, .int v3)]) C dX4_onlyLimit_42 rfl (by decide) e_x5 (by decide) rfl ?_
        refine z_goto (tgt := 5) C dX4_onlyLimit_45 (by decide) ?_
        exact z_sub [1, 2, 3, 0] rfl (ih _ _ _ _ hm)
      · have hm := zIf hm c4
        refine z_aload_n C dX4_onlyLimit_21 rfl 0 rfl ?_
        refine z_iload C dX4_onlyLimit_22 3 rfl ?_
        obtain ⟨x6, s7, q_s7, hm⟩ := zBd_of hm
        refine z_cV (vd := false) (Cn := RX5) (k := 1) C 1 [.int v4] [] (c_X5_kind (zC_I C) (zC_st C)  q_s7) gX4_onlyLimit_X5_kind (by decide +kernel) kX1 vc5 rfl rfl dX4_onlyLimit_24 rfl ⟨Nat.le_of_ble_eq_true rfl, Nat.le_of_ble_eq_true rfl⟩ rfl (Nat.le_of_ble_eq_true rfl) ?_
        refine z_bipush (v := (8 : Int32)) C dX4_onlyLimit_27 (by decide) ?_
        refine z_icmp_ne (tgt := 42) C dX4_onlyLimit_29 (by decide) (fun c8 => ?_) (fun c8 => ?_)
        · have hm := zIf hm c8
          obtain ⟨x9, e_x9, hm⟩ := zLt_of hm
          refine z_iinc (j := 3) (v := x9) (d := (1 : Int32)) (lv' := [(4, .int x9), (1, .ref (ad 1)), (2, .int v2), (3, .int v3)]) C dX4_onlyLimit_42 rfl (by decide) e_x9 (by decide) rfl ?_
          refine z_goto (tgt := 5) C dX4_onlyLimit_45 (by decide) ?_
          exact z_sub [1, 2, 3, 0] rfl (ih _ _ _ _ hm)
        · have hm := zIt hm c8
          refine z_iload_n C dX4_onlyLimit_32 rfl 2 rfl ?_
          refine z_iconst (v := (-1 : Int32)) C dX4_onlyLimit_33 (by decide) ?_
          refine z_icmp_eq (tgt := 39) C dX4_onlyLimit_34 (by decide) (fun c10 => ?_) (fun c10 => ?_)
          · have hm := zIt hm c10
            refine z_iload C dX4_onlyLimit_39 3 rfl ?_
            refine z_istore_n (y := v4) (lv' := [(3, .int v4), (1, .ref (ad 1)), (2, .int v2), (4, .int v4)]) C dX4_onlyLimit_41 rfl (by decide) rfl rfl ?_
            obtain ⟨x11, e_x11, hm⟩ := zLt_of hm
            refine z_iinc (j := 3) (v := x11) (d := (1 : Int32)) (lv' := [(4, .int x11), (3, .int v4), (1, .ref (ad 1)), (2, .int v2)]) C dX4_onlyLimit_42 rfl (by decide) e_x11 (by decide) rfl ?_
            refine z_goto (tgt := 5) C dX4_onlyLimit_45 (by decide) ?_
            exact z_sub [2, 3, 1, 0] rfl (ih _ _ _ _ hm)
          · have hm := zIf hm c10
            refine z_iconst (v := (-1 : Int32)) C dX4_onlyLimit_37 (by decide) ?_
            exact z_iret0 C hQ (zRt_of hm).1 (zRt_of hm).2 dX4_onlyLimit_38
set_option maxRecDepth 100000 in
set_option maxHeartbeats 4000000 in
theorem w_X4_onlyLimit_e {h : zH} {ad : Nat → Nat} {G : zG} (C : zC h ad zLX 5 G cX4_onlyLimit RX4 wsX4_onlyLimit 2 42) {n : Nat} {r : Int32} {s9 : zS} (hQ : zQ h ad zLX G false (.inl r) s9 (some .int)) {v2 : Int32} (s : zS) (hm : m_X4_onlyLimit n v2 s = some (r, s9)) : zV h ad zLX 5 G s 0 [(0, .ref (ad 6)), (1, .ref (ad 1)), (2, .int v2)] [] := by
  rw [m_X4_onlyLimit] at hm
  refine z_iconst (v := (-1 : Int32)) C dX4_onlyLimit_0 (by decide) ?_
  refine z_istore_n (y := (-1 : Int32)) (lv' := [(3, .int (-1 : Int32)), (0, .ref (ad 6)), (1, .ref (ad 1)), (2, .int v2)]) C dX4_onlyLimit_1 rfl (by decide) rfl rfl ?_
  refine z_iconst (v := (0 : Int32)) C dX4_onlyLimit_2 (by decide) ?_
  refine z_istore (y := (0 : Int32)) (lv' := [(4, .int (0 : Int32)), (3, .int (-1 : Int32)), (0, .ref (ad 6)), (1, .ref (ad 1)), (2, .int v2)]) C dX4_onlyLimit_3 (by decide) rfl rfl ?_
  exact z_sub [3, 4, 1, 0] rfl (w_X4_onlyLimit_j5 C hQ  _ _ _ _ _ hm)
set_option maxRecDepth 100000 in
set_option maxHeartbeats 4000000 in
theorem c_X4_onlyLimit {h : zH} {ad : Nat → Nat} (hI : zI ad zLX.length) (hst : h.1.stackTraces = false) {n : Nat} {v2 : Int32} {s s9 : zS} {r : Int32} (hm : m_X4_onlyLimit n v2 s = some (r, s9)) : zMR h ad zLX false yX4_onlyLimit wsX4_onlyLimit 2 42 [.ref (ad 6), .ref (ad 1), .int v2] s (.inl r) s9 :=
  z_start (cc := cX4_onlyLimit) (nL := 5) (ret := (some .int)) (own := RX4) (by decide +kernel) rfl rfl hI hst (Nat.le_of_ble_eq_true rfl) (fun G C hQ => w_X4_onlyLimit_e C hQ _ hm)
set_option maxRecDepth 100000 in
theorem eX4_direct_uX4 : ∀ w ∈ wsX40, w ∈ wsX4_direct := by decide +kernel
set_option maxRecDepth 100000 in
theorem eX4_direct_f90 : Cond.fieldLink RX4 90 RX4 (TX4 6).2.1 (TX4 6).2.2.1 ∈ wsX4_direct := by decide +kernel
set_option maxRecDepth 100000 in
theorem eX4_direct_tX7_bit : Cond.static yX7_bit ∈ wsX4_direct := by decide +kernel
set_option maxRecDepth 100000 in
theorem eX4_direct_iX7_bit : Cond.initialized yX7_bit.cls ∈ wsX4_direct := by decide +kernel
set_option maxRecDepth 100000 in
theorem eX4_direct_n77 : (RX4, 77, yX7_bit, "TaxEngine") ∈ zN := by decide +kernel
set_option maxRecDepth 100000 in
theorem eX4_direct_f87 : Cond.fieldLink RX4 87 RX4 (TX4 5).2.1 (TX4 5).2.2.1 ∈ wsX4_direct := by decide +kernel
set_option maxRecDepth 100000 in
set_option maxHeartbeats 4000000 in
theorem w_X4_direct_j127 {h : zH} {ad : Nat → Nat} {G : zG} (C : zC h ad zLX 8 G cX4_direct RX4 wsX4_direct 3 65) {n : Nat} {r : Int32} {s9 : zS} (hQ : zQ h ad zLX G true (.inl r) s9 none) (v2 : Int32) (v7 : Int32) (s : zS) (hm : m_X4_direct_j127 n v2 v7 s = some (r, s9)) : zV h ad zLX 8 G s 127 [(0, .ref (ad 6)), (2, .int v2), (7, .int v7)] [] := by
  rw [m_X4_direct_j127] at hm
  refine z_iload C dX4_direct_127 2 rfl ?_
  refine z_if_eq (tgt := 145) C dX4_direct_129 (by decide) (fun c1 => ?_) (fun c1 => ?_)
  · have hm := zIt hm c1
    exact z_vret0 C hQ (zRt_of hm).1 (zRt_of hm).2 dX4_direct_145
  · have hm := zIf hm c1
    refine z_aload_n C dX4_direct_132 rfl 0 rfl ?_
    refine z_dup C dX4_direct_133 rfl ?_
    refine z_get C kX6 vc4 eX4_direct_uX4 6 (by decide) rfl eX4_direct_f90 rfl dX4_direct_134 ?_
    refine z_iload_n C dX4_direct_137 rfl 1 rfl ?_
    obtain ⟨x2, s3, q_s3, hm⟩ := zBd_of hm
    refine z_cSN (vd := false) (host := "TaxEngine") C 1 [.int v2] [.int (s 6 6), .ref (ad 6)] (c_X7_bit (zC_I C) (zC_st C)  q_s3) gX4_direct_X7_bit_n77 eX4_direct_n77 eX4_direct_tX7_bit eX4_direct_iX7_bit (by decide +kernel) rfl dX4_direct_138 rfl ⟨Nat.le_of_ble_eq_true rfl, Nat.le_of_ble_eq_true rfl⟩ rfl (Nat.le_of_ble_eq_true rfl) ?_
    refine z_ior C dX4_direct_141 ?_
    obtain ⟨s4, e_s4, hm⟩ := zLt_of hm
    refine z_put C kX6 vc4 eX4_direct_uX4 tyX4_ok nmX4 6 (by decide) rfl eX4_direct_f90 rfl rfl rfl e_s4 dX4_direct_142 ?_
    exact z_vret0 C hQ (zRt_of hm).1 (zRt_of hm).2 dX4_direct_145
set_option maxRecDepth 100000 in
set_option maxHeartbeats 4000000 in
theorem w_X4_direct_j107 {h : zH} {ad : Nat → Nat} {G : zG} (C : zC h ad zLX 8 G cX4_direct RX4 wsX4_direct 3 65) {n : Nat} {r : Int32} {s9 : zS} (hQ : zQ h ad zLX G true (.inl r) s9 none) (v2 : Int32) (v6 : Int32) (t0 : Int32) (s : zS) (hm : m_X4_direct_j107 n v2 v6 t0 s = some (r, s9)) : zV h ad zLX 8 G s 107 [(0, .ref (ad 6)), (2, .int v2), (6, .int v6)] [.int t0] := by
  rw [m_X4_direct_j107] at hm
  refine z_istore (y := t0) (lv' := [(7, .int t0), (0, .ref (ad 6)), (2, .int v2), (6, .int v6)]) C dX4_direct_107 (by decide) rfl rfl ?_
  refine z_iload C dX4_direct_109 3 rfl ?_
  refine z_if_eq (tgt := 127) C dX4_direct_111 (by decide) (fun c5 => ?_) (fun c5 => ?_)
  · have hm := zIt hm c5
    exact z_sub [1, 2, 0] rfl (w_X4_direct_j127 C hQ  _ _ _ hm)
  · have hm := zIf hm c5
    refine z_aload_n C dX4_direct_114 rfl 1 rfl ?_
    refine z_dup C dX4_direct_115 rfl ?_
    refine z_get C kX6 vc4 eX4_direct_uX4 5 (by decide) rfl eX4_direct_f87 rfl dX4_direct_116 ?_
    refine z_iload_n C dX4_direct_119 rfl 2 rfl ?_
    obtain ⟨x6, s7, q_s7, hm⟩ := zBd_of hm
    refine z_cSN (vd := false) (host := "TaxEngine") C 1 [.int v2] [.int (s 6 5), .ref (ad 6)] (c_X7_bit (zC_I C) (zC_st C)  q_s7) gX4_direct_X7_bit_n77 eX4_direct_n77 eX4_direct_tX7_bit eX4_direct_iX7_bit (by decide +kernel) rfl dX4_direct_120 rfl ⟨Nat.le_of_ble_eq_true rfl, Nat.le_of_ble_eq_true rfl⟩ rfl (Nat.le_of_ble_eq_true rfl) ?_
    refine z_ior C dX4_direct_123 ?_
    obtain ⟨s8, e_s8, hm⟩ := zLt_of hm
    refine z_put C kX6 vc4 eX4_direct_uX4 tyX4_ok nmX4 5 (by decide) rfl eX4_direct_f87 rfl rfl rfl e_s8 dX4_direct_124 ?_
    exact z_sub [1, 2, 0] rfl (w_X4_direct_j127 C hQ  _ _ _ hm)
set_option maxRecDepth 100000 in
set_option maxHeartbeats 4000000 in
theorem w_X4_direct_j80 {h : zH} {ad : Nat → Nat} {G : zG} (C : zC h ad zLX 8 G cX4_direct RX4 wsX4_direct 3 65) {n : Nat} {r : Int32} {s9 : zS} (hQ : zQ h ad zLX G true (.inl r) s9 none) (v2 : Int32) (v4 : Int32) (v5 : Int32) (t0 : Int32) (s : zS) (hm : m_X4_direct_j80 n v2 v4 v5 t0 s = some (r, s9)) : zV h ad zLX 8 G s 80 [(0, .ref (ad 6)), (2, .int v2), (4, .int v4), (5, .int v5)] [.int t0] := by
  rw [m_X4_direct_j80] at hm
  refine z_istore (y := t0) (lv' := [(6, .int t0), (0, .ref (ad 6)), (2, .int v2), (4, .int v4), (5, .int v5)]) C dX4_direct_80 (by decide) rfl rfl ?_
  refine z_iload C dX4_direct_82 3 rfl ?_
  refine z_aload_n C dX4_direct_84 rfl 1 rfl ?_
  refine z_get C kX6 vc4 eX4_direct_uX4 6 (by decide) rfl eX4_direct_f90 rfl dX4_direct_85 ?_
  refine z_iand C dX4_direct_88 ?_
  refine z_if_ne (tgt := 102) C dX4_direct_89 (by decide) (fun c9 => ?_) (fun c9 => ?_)
  · have hm := zIf hm c9
    refine z_iconst (v := (1 : Int32)) C dX4_direct_102 (by decide) ?_
    refine z_goto (tgt := 107) C dX4_direct_103 (by decide) ?_
    exact z_sub [1, 2, 0] rfl (w_X4_direct_j107 C hQ  _ _ _ _ hm)
  · have hm := zIt hm c9
    refine z_iload C dX4_direct_92 4 rfl ?_
    refine z_aload_n C dX4_direct_94 rfl 1 rfl ?_
    refine z_get C kX6 vc4 eX4_direct_uX4 5 (by decide) rfl eX4_direct_f87 rfl dX4_direct_95 ?_
    refine z_iand C dX4_direct_98 ?_
    refine z_if_eq (tgt := 106) C dX4_direct_99 (by decide) (fun c10 => ?_) (fun c10 => ?_)
    · have hm := zIt hm c10
      refine z_iconst (v := (0 : Int32)) C dX4_direct_106 (by decide) ?_
      exact z_sub [1, 2, 0] rfl (w_X4_direct_j107 C hQ  _ _ _ _ hm)
    · have hm := zIf hm c10
      refine z_iconst (v := (1 : Int32)) C dX4_direct_102 (by decide) ?_
      refine z_goto (tgt := 107) C dX4_direct_103 (by decide) ?_
      exact z_sub [1, 2, 0] rfl (w_X4_direct_j107 C hQ  _ _ _ _ hm)
set_option maxRecDepth 100000 in
set_option maxHeartbeats 4000000 in
theorem w_X4_direct_j53 {h : zH} {ad : Nat → Nat} {G : zG} (C : zC h ad zLX 8 G cX4_direct RX4 wsX4_direct 3 65) {n : Nat} {r : Int32} {s9 : zS} (hQ : zQ h ad zLX G true (.inl r) s9 none) (v2 : Int32) (v4 : Int32) (t0 : Int32) (s : zS) (hm : m_X4_direct_j53 n v2 v4 t0 s = some (r, s9)) : zV h ad zLX 8 G s 53 [(0, .ref (ad 6)), (2, .int v2), (4, .int v4)] [.int t0] := by
  rw [m_X4_direct_j53] at hm
  refine z_istore (y := t0) (lv' := [(5, .int t0), (0, .ref (ad 6)), (2, .int v2), (4, .int v4)]) C dX4_direct_53 (by decide) rfl rfl ?_
  refine z_iload C dX4_direct_55 3 rfl ?_
  refine z_aload_n C dX4_direct_57 rfl 1 rfl ?_
  refine z_get C kX6 vc4 eX4_direct_uX4 5 (by decide) rfl eX4_direct_f87 rfl dX4_direct_58 ?_
  refine z_iand C dX4_direct_61 ?_
  refine z_if_ne (tgt := 75) C dX4_direct_62 (by decide) (fun c11 => ?_) (fun c11 => ?_)
  · have hm := zIf hm c11
    refine z_iconst (v := (1 : Int32)) C dX4_direct_75 (by decide) ?_
    refine z_goto (tgt := 80) C dX4_direct_76 (by decide) ?_
    exact z_sub [1, 2, 3, 0] rfl (w_X4_direct_j80 C hQ  _ _ _ _ _ hm)
  · have hm := zIt hm c11
    refine z_iload C dX4_direct_65 0 rfl ?_
    refine z_aload_n C dX4_direct_67 rfl 1 rfl ?_
    refine z_get C kX6 vc4 eX4_direct_uX4 6 (by decide) rfl eX4_direct_f90 rfl dX4_direct_68 ?_
    refine z_iand C dX4_direct_71 ?_
    refine z_if_eq (tgt := 79) C dX4_direct_72 (by decide) (fun c12 => ?_) (fun c12 => ?_)
    · have hm := zIt hm c12
      refine z_iconst (v := (0 : Int32)) C dX4_direct_79 (by decide) ?_
      exact z_sub [1, 2, 3, 0] rfl (w_X4_direct_j80 C hQ  _ _ _ _ _ hm)
    · have hm := zIf hm c12
      refine z_iconst (v := (1 : Int32)) C dX4_direct_75 (by decide) ?_
      refine z_goto (tgt := 80) C dX4_direct_76 (by decide) ?_
      exact z_sub [1, 2, 3, 0] rfl (w_X4_direct_j80 C hQ  _ _ _ _ _ hm)
set_option maxRecDepth 100000 in
set_option maxHeartbeats 4000000 in
theorem w_X4_direct_j35 {h : zH} {ad : Nat → Nat} {G : zG} (C : zC h ad zLX 8 G cX4_direct RX4 wsX4_direct 3 65) {n : Nat} {r : Int32} {s9 : zS} (hQ : zQ h ad zLX G true (.inl r) s9 none) (v2 : Int32) (v3 : Int32) (t0 : Int32) (s : zS) (hm : m_X4_direct_j35 n v2 v3 t0 s = some (r, s9)) : zV h ad zLX 8 G s 35 [(0, .ref (ad 6)), (1, .ref (ad 1)), (2, .int v2), (3, .int v3)] [.int t0] := by
  rw [m_X4_direct_j35] at hm
  refine z_istore (y := t0) (lv' := [(4, .int t0), (0, .ref (ad 6)), (1, .ref (ad 1)), (2, .int v2), (3, .int v3)]) C dX4_direct_35 (by decide) rfl rfl ?_
  refine z_iload_n C dX4_direct_37 rfl 4 rfl ?_
  refine z_if_eq (tgt := 52) C dX4_direct_38 (by decide) (fun c13 => ?_) (fun c13 => ?_)
  · have hm := zIt hm c13
    refine z_iconst (v := (0 : Int32)) C dX4_direct_52 (by decide) ?_
    exact z_sub [1, 3, 0] rfl (w_X4_direct_j53 C hQ  _ _ _ _ hm)
  · have hm := zIf hm c13
    refine z_aload_n C dX4_direct_41 rfl 2 rfl ?_
    refine z_iload_n C dX4_direct_42 rfl 3 rfl ?_
    obtain ⟨x14, s15, q_s15, hm⟩ := zBd_of hm
    refine z_cV (vd := false) (Cn := RX5) (k := 1) C 1 [.int v2] [] (c_X5_second (zC_I C) (zC_st C)  q_s15) gX4_direct_X5_second (by decide +kernel) kX1 vc5 rfl rfl dX4_direct_43 rfl ⟨Nat.le_of_ble_eq_true rfl, Nat.le_of_ble_eq_true rfl⟩ rfl (Nat.le_of_ble_eq_true rfl) ?_
    obtain ⟨x16, s17, q_s17, hm⟩ := zBd_of hm
    refine z_cSN (vd := false) (host := "TaxEngine") C 1 [.int x14] [] (c_X7_bit (zC_I C) (zC_st C)  q_s17) gX4_direct_X7_bit_n77 eX4_direct_n77 eX4_direct_tX7_bit eX4_direct_iX7_bit (by decide +kernel) rfl dX4_direct_46 rfl ⟨Nat.le_of_ble_eq_true rfl, Nat.le_of_ble_eq_true rfl⟩ rfl (Nat.le_of_ble_eq_true rfl) ?_
    refine z_goto (tgt := 53) C dX4_direct_49 (by decide) ?_
    exact z_sub [1, 3, 0] rfl (w_X4_direct_j53 C hQ  _ _ _ _ hm)
set_option maxRecDepth 100000 in
set_option maxHeartbeats 4000000 in
theorem w_X4_direct_j14 {h : zH} {ad : Nat → Nat} {G : zG} (C : zC h ad zLX 8 G cX4_direct RX4 wsX4_direct 3 65) {n : Nat} {r : Int32} {s9 : zS} (hQ : zQ h ad zLX G true (.inl r) s9 none) (v2 : Int32) (t0 : Int32) (s : zS) (hm : m_X4_direct_j14 n v2 t0 s = some (r, s9)) : zV h ad zLX 8 G s 14 [(0, .ref (ad 6)), (1, .ref (ad 1)), (2, .int v2)] [.int t0] := by
  rw [m_X4_direct_j14] at hm
  refine z_istore_n (y := t0) (lv' := [(3, .int t0), (0, .ref (ad 6)), (1, .ref (ad 1)), (2, .int v2)]) C dX4_direct_14 rfl (by decide) rfl rfl ?_
  refine z_iload_n C dX4_direct_15 rfl 0 rfl ?_
  refine z_if_eq (tgt := 30) C dX4_direct_16 (by decide) (fun c18 => ?_) (fun c18 => ?_)
  · have hm := zIt hm c18
    refine z_aload_n C dX4_direct_30 rfl 2 rfl ?_
    refine z_iload_n C dX4_direct_31 rfl 3 rfl ?_
    obtain ⟨x19, s20, q_s20, hm⟩ := zBd_of hm
    refine z_cV (vd := false) (Cn := RX5) (k := 1) C 1 [.int v2] [] (c_X5_uses (zC_I C) (zC_st C)  q_s20) gX4_direct_X5_uses (by decide +kernel) kX1 vc5 rfl rfl dX4_direct_32 rfl ⟨Nat.le_of_ble_eq_true rfl, Nat.le_of_ble_eq_true rfl⟩ rfl (Nat.le_of_ble_eq_true rfl) ?_
    exact z_sub [1, 2, 3, 0] rfl (w_X4_direct_j35 C hQ  _ _ _ _ hm)
  · have hm := zIf hm c18
    refine z_aload_n C dX4_direct_19 rfl 2 rfl ?_
    refine z_iload_n C dX4_direct_20 rfl 3 rfl ?_
    obtain ⟨x21, s22, q_s22, hm⟩ := zBd_of hm
    refine z_cV (vd := false) (Cn := RX5) (k := 1) C 1 [.int v2] [] (c_X5_first (zC_I C) (zC_st C)  q_s22) gX4_direct_X5_first (by decide +kernel) kX1 vc5 rfl rfl dX4_direct_21 rfl ⟨Nat.le_of_ble_eq_true rfl, Nat.le_of_ble_eq_true rfl⟩ rfl (Nat.le_of_ble_eq_true rfl) ?_
    obtain ⟨x23, s24, q_s24, hm⟩ := zBd_of hm
    refine z_cSN (vd := false) (host := "TaxEngine") C 1 [.int x21] [] (c_X7_bit (zC_I C) (zC_st C)  q_s24) gX4_direct_X7_bit_n77 eX4_direct_n77 eX4_direct_tX7_bit eX4_direct_iX7_bit (by decide +kernel) rfl dX4_direct_24 rfl ⟨Nat.le_of_ble_eq_true rfl, Nat.le_of_ble_eq_true rfl⟩ rfl (Nat.le_of_ble_eq_true rfl) ?_
    refine z_goto (tgt := 35) C dX4_direct_27 (by decide) ?_
    exact z_sub [1, 2, 3, 0] rfl (w_X4_direct_j35 C hQ  _ _ _ _ hm)
set_option maxRecDepth 100000 in
set_option maxHeartbeats 4000000 in
theorem w_X4_direct_e {h : zH} {ad : Nat → Nat} {G : zG} (C : zC h ad zLX 8 G cX4_direct RX4 wsX4_direct 3 65) {n : Nat} {r : Int32} {s9 : zS} (hQ : zQ h ad zLX G true (.inl r) s9 none) {v2 : Int32} (s : zS) (hm : m_X4_direct n v2 s = some (r, s9)) : zV h ad zLX 8 G s 0 [(0, .ref (ad 6)), (1, .ref (ad 1)), (2, .int v2)] [] := by
  rw [m_X4_direct] at hm
  refine z_aload_n C dX4_direct_0 rfl 1 rfl ?_
  refine z_iload_n C dX4_direct_1 rfl 2 rfl ?_
  obtain ⟨x25, s26, q_s26, hm⟩ := zBd_of hm
  refine z_cV (vd := false) (Cn := RX5) (k := 1) C 1 [.int v2] [] (c_X5_kind (zC_I C) (zC_st C)  q_s26) gX4_direct_X5_kind (by decide +kernel) kX1 vc5 rfl rfl dX4_direct_2 rfl ⟨Nat.le_of_ble_eq_true rfl, Nat.le_of_ble_eq_true rfl⟩ rfl (Nat.le_of_ble_eq_true rfl) ?_
  refine z_iconst (v := (2 : Int32)) C dX4_direct_5 (by decide) ?_
  refine z_icmp_ne (tgt := 13) C dX4_direct_6 (by decide) (fun c27 => ?_) (fun c27 => ?_)
  · have hm := zIf hm c27
    refine z_iconst (v := (0 : Int32)) C dX4_direct_13 (by decide) ?_
    exact z_sub [0, 1, 2] rfl (w_X4_direct_j14 C hQ  _ _ _ hm)
  · have hm := zIt hm c27
    refine z_iconst (v := (1 : Int32)) C dX4_direct_9 (by decide) ?_
    refine z_goto (tgt := 14) C dX4_direct_10 (by decide) ?_
    exact z_sub [0, 1, 2] rfl (w_X4_direct_j14 C hQ  _ _ _ hm)
set_option maxRecDepth 100000 in
set_option maxHeartbeats 4000000 in
theorem c_X4_direct {h : zH} {ad : Nat → Nat} (hI : zI ad zLX.length) (hst : h.1.stackTraces = false) {n : Nat} {v2 : Int32} {s s9 : zS} {r : Int32} (hm : m_X4_direct n v2 s = some (r, s9)) : zMR h ad zLX true yX4_direct wsX4_direct 3 65 [.ref (ad 6), .ref (ad 1), .int v2] s (.inl r) s9 :=
  z_start (cc := cX4_direct) (nL := 8) (ret := none) (own := RX4) (by decide +kernel) rfl rfl hI hst (Nat.le_of_ble_eq_true rfl) (fun G C hQ => w_X4_direct_e C hQ _ hm)
set_option maxRecDepth 100000 in
theorem eX4_placeCircle_uX4 : ∀ w ∈ wsX40, w ∈ wsX4_placeCircle := by decide +kernel
set_option maxRecDepth 100000 in
theorem eX4_placeCircle_f87 : Cond.fieldLink RX4 87 RX4 (TX4 5).2.1 (TX4 5).2.2.1 ∈ wsX4_placeCircle := by decide +kernel
set_option maxRecDepth 100000 in
theorem eX4_placeCircle_f90 : Cond.fieldLink RX4 90 RX4 (TX4 6).2.1 (TX4 6).2.2.1 ∈ wsX4_placeCircle := by decide +kernel
set_option maxRecDepth 100000 in
theorem eX4_placeCircle_tX7_has : Cond.static yX7_has ∈ wsX4_placeCircle := by decide +kernel
set_option maxRecDepth 100000 in
theorem eX4_placeCircle_iX7_has : Cond.initialized yX7_has.cls ∈ wsX4_placeCircle := by decide +kernel
set_option maxRecDepth 100000 in
theorem eX4_placeCircle_n61 : (RX4, 61, yX7_has, "TaxEngine") ∈ zN := by decide +kernel
set_option maxRecDepth 100000 in
theorem eX4_placeCircle_f32 : Cond.fieldLink RX4 32 RX4 (TX4 4).2.1 (TX4 4).2.2.1 ∈ wsX4_placeCircle := by decide +kernel
set_option maxRecDepth 100000 in
theorem eX4_placeCircle_tX7_bit : Cond.static yX7_bit ∈ wsX4_placeCircle := by decide +kernel
set_option maxRecDepth 100000 in
theorem eX4_placeCircle_iX7_bit : Cond.initialized yX7_bit.cls ∈ wsX4_placeCircle := by decide +kernel
set_option maxRecDepth 100000 in
theorem eX4_placeCircle_n77 : (RX4, 77, yX7_bit, "TaxEngine") ∈ zN := by decide +kernel
set_option maxRecDepth 100000 in
set_option maxHeartbeats 4000000 in
theorem w_X4_placeCircle_j137 {h : zH} {ad : Nat → Nat} {G : zG} (C : zC h ad zLX 6 G cX4_placeCircle RX4 wsX4_placeCircle 4 92) {n : Nat} {r : Int32} {s9 : zS} (hQ : zQ h ad zLX G false (.inl r) s9 (some .boolean)) (v3 : Int32) (t0 : Int32) (s : zS) (hm : m_X4_placeCircle_j137 n v3 t0 s = some (r, s9)) : zV h ad zLX 6 G s 137 [(0, .ref (ad 6)), (1, .ref (ad 1)), (3, .int v3)] [.int t0] := by
  rw [m_X4_placeCircle_j137] at hm
  refine z_istore (y := t0) (lv' := [(4, .int t0), (0, .ref (ad 6)), (1, .ref (ad 1)), (3, .int v3)]) C dX4_placeCircle_137 (by decide) rfl rfl ?_
  refine z_iload C dX4_placeCircle_139 0 rfl ?_
  refine z_if_eq (tgt := 175) C dX4_placeCircle_141 (by decide) (fun c1 => ?_) (fun c1 => ?_)
  · have hm := zIt hm c1
    refine z_iconst (v := (0 : Int32)) C dX4_placeCircle_175 (by decide) ?_
    exact z_zret0 C hQ (zRt_of hm).1 (zRt_of hm).2 (by decide) dX4_placeCircle_176
  · have hm := zIf hm c1
    refine z_aload_n C dX4_placeCircle_144 rfl 1 rfl ?_
    refine z_get C kX6 vc4 eX4_placeCircle_uX4 5 (by decide) rfl eX4_placeCircle_f87 rfl dX4_placeCircle_145 ?_
    refine z_aload_n C dX4_placeCircle_148 rfl 1 rfl ?_
    refine z_get C kX6 vc4 eX4_placeCircle_uX4 6 (by decide) rfl eX4_placeCircle_f90 rfl dX4_placeCircle_149 ?_
    refine z_iand C dX4_placeCircle_152 ?_
    refine z_if_ne (tgt := 175) C dX4_placeCircle_153 (by decide) (fun c2 => ?_) (fun c2 => ?_)
    · have hm := zIf hm c2
      refine z_iconst (v := (0 : Int32)) C dX4_placeCircle_175 (by decide) ?_
      exact z_zret0 C hQ (zRt_of hm).1 (zRt_of hm).2 (by decide) dX4_placeCircle_176
    · have hm := zIt hm c2
      refine z_aload_n C dX4_placeCircle_156 rfl 1 rfl ?_
      refine z_get C kX6 vc4 eX4_placeCircle_uX4 6 (by decide) rfl eX4_placeCircle_f90 rfl dX4_placeCircle_157 ?_
      refine z_aload_n C dX4_placeCircle_160 rfl 2 rfl ?_
      refine z_iload_n C dX4_placeCircle_161 rfl 3 rfl ?_
      obtain ⟨x3, s4, q_s4, hm⟩ := zBd_of hm
      refine z_cV (vd := false) (Cn := RX5) (k := 1) C 1 [.int v3] [.int (s 6 6)] (c_X5_second (zC_I C) (zC_st C)  q_s4) gX4_placeCircle_X5_second (by decide +kernel) kX1 vc5 rfl rfl dX4_placeCircle_162 rfl ⟨Nat.le_of_ble_eq_true rfl, Nat.le_of_ble_eq_true rfl⟩ rfl (Nat.le_of_ble_eq_true rfl) ?_
      obtain ⟨x5, s6, q_s6, hm⟩ := zBd_of hm
      refine z_cSN (vd := false) (host := "TaxEngine") C 2 [.int (s 6 6), .int x3] [] (c_X7_has (zC_I C) (zC_st C)  q_s6) gX4_placeCircle_X7_has_n61 eX4_placeCircle_n61 eX4_placeCircle_tX7_has eX4_placeCircle_iX7_has (by decide +kernel) rfl dX4_placeCircle_165 rfl ⟨Nat.le_of_ble_eq_true rfl, Nat.le_of_ble_eq_true rfl⟩ rfl (Nat.le_of_ble_eq_true rfl) ?_
      refine z_if_eq (tgt := 175) C dX4_placeCircle_168 (by decide) (fun c7 => ?_) (fun c7 => ?_)
      · have hm := zIt hm c7
        refine z_iconst (v := (0 : Int32)) C dX4_placeCircle_175 (by decide) ?_
        exact z_zret0 C hQ (zRt_of hm).1 (zRt_of hm).2 (by decide) dX4_placeCircle_176
      · have hm := zIf hm c7
        refine z_iconst (v := (1 : Int32)) C dX4_placeCircle_171 (by decide) ?_
        refine z_goto (tgt := 176) C dX4_placeCircle_172 (by decide) ?_
        exact z_zret0 C hQ (zRt_of hm).1 (zRt_of hm).2 (by decide) dX4_placeCircle_176
set_option maxRecDepth 100000 in
set_option maxHeartbeats 4000000 in
theorem w_X4_placeCircle_j57 {h : zH} {ad : Nat → Nat} {G : zG} (C : zC h ad zLX 6 G cX4_placeCircle RX4 wsX4_placeCircle 4 92) {n : Nat} {r : Int32} {s9 : zS} (hQ : zQ h ad zLX G false (.inl r) s9 (some .boolean)) {rec47 : Int32 → Int32 → Int32 → zS → Option (Int32 × zS)} (hrec47 : ∀ (v2 : Int32) (v3 : Int32) (v4 : Int32) (s : zS), rec47 v2 v3 v4 s = some (r, s9) → zV h ad zLX 6 G s 47 [(0, .ref (ad 6)), (1, .ref (ad 1)), (2, .int v2), (3, .int v3), (4, .int v4)] []) : ∀ (f : Nat) (v2 : Int32) (v3 : Int32) (v4 : Int32) (v5 : Int32) (s : zS), m_X4_placeCircle_j57 rec47 n f v2 v3 v4 v5 s = some (r, s9) → zV h ad zLX 6 G s 57 [(0, .ref (ad 6)), (1, .ref (ad 1)), (2, .int v2), (3, .int v3), (4, .int v4), (5, .int v5)] [] := by
  intro f
  induction f with
  | zero => intro v2 v3 v4 v5 s hm; simp [m_X4_placeCircle_j57] at hm
  | succ f ih =>
    intro v2 v3 v4 v5 s hm
    rw [m_X4_placeCircle_j57] at hm
    refine z_iload C dX4_placeCircle_57 5 rfl ?_
    refine z_bipush (v := (16 : Int32)) C dX4_placeCircle_59 (by decide) ?_
    refine z_icmp_ge (tgt := 115) C dX4_placeCircle_61 (by decide) (fun c8 => ?_) (fun c8 => ?_)
    · have hm := zIt hm c8
      obtain ⟨x9, e_x9, hm⟩ := zLt_of hm
      refine z_iinc (j := 4) (v := x9) (d := (1 : Int32)) (lv' := [(4, .int x9), (0, .ref (ad 6)), (1, .ref (ad 1)), (2, .int v2), (3, .int v3), (5, .int v5)]) C dX4_placeCircle_115 rfl (by decide) e_x9 (by decide) rfl ?_
      refine z_goto (tgt := 47) C dX4_placeCircle_118 (by decide) ?_
      exact z_sub [1, 2, 3, 4, 0] rfl (hrec47 _ _ _ _ hm)
    · have hm := zIf hm c8
      refine z_iload_n C dX4_placeCircle_64 rfl 2 rfl ?_
      refine z_aload_n C dX4_placeCircle_65 rfl 0 rfl ?_
      refine z_get C kX6 vc4 eX4_placeCircle_uX4 4 (by decide) rfl eX4_placeCircle_f32 rfl dX4_placeCircle_66 ?_
      refine z_iconst (v := (-1 : Int32)) C dX4_placeCircle_69 (by decide) ?_
      refine z_ixor C dX4_placeCircle_70 ?_
      refine z_iand C dX4_placeCircle_71 ?_
      refine z_iload C dX4_placeCircle_72 5 rfl ?_
      obtain ⟨x10, s11, q_s11, hm⟩ := zBd_of hm
      refine z_cSN (vd := false) (host := "TaxEngine") C 2 [.int (v2 &&& ((s 6 4) ^^^ (-1 : Int32))), .int v5] [] (c_X7_has (zC_I C) (zC_st C)  q_s11) gX4_placeCircle_X7_has_n61 eX4_placeCircle_n61 eX4_placeCircle_tX7_has eX4_placeCircle_iX7_has (by decide +kernel) rfl dX4_placeCircle_74 rfl ⟨Nat.le_of_ble_eq_true rfl, Nat.le_of_ble_eq_true rfl⟩ rfl (Nat.le_of_ble_eq_true rfl) ?_
      refine z_if_eq (tgt := 109) C dX4_placeCircle_77 (by decide) (fun c12 => ?_) (fun c12 => ?_)
      · have hm := zIt hm c12
        obtain ⟨x13, e_x13, hm⟩ := zLt_of hm
        refine z_iinc (j := 5) (v := x13) (d := (1 : Int32)) (lv' := [(5, .int x13), (0, .ref (ad 6)), (1, .ref (ad 1)), (2, .int v2), (3, .int v3), (4, .int v4)]) C dX4_placeCircle_109 rfl (by decide) e_x13 (by decide) rfl ?_
        refine z_goto (tgt := 57) C dX4_placeCircle_112 (by decide) ?_
        exact z_sub [1, 2, 3, 4, 5, 0] rfl (ih _ _ _ _ _ hm)
      · have hm := zIf hm c12
        refine z_aload_n C dX4_placeCircle_80 rfl 1 rfl ?_
        refine z_iload C dX4_placeCircle_81 5 rfl ?_
        obtain ⟨x14, s15, q_s15, hm⟩ := zBd_of hm
        refine z_cV (vd := false) (Cn := RX5) (k := 1) C 1 [.int v5] [] (c_X5_uses (zC_I C) (zC_st C)  q_s15) gX4_placeCircle_X5_uses (by decide +kernel) kX1 vc5 rfl rfl dX4_placeCircle_83 rfl ⟨Nat.le_of_ble_eq_true rfl, Nat.le_of_ble_eq_true rfl⟩ rfl (Nat.le_of_ble_eq_true rfl) ?_
        refine z_aload_n C dX4_placeCircle_86 rfl 0 rfl ?_
        refine z_get C kX6 vc4 eX4_placeCircle_uX4 4 (by decide) rfl eX4_placeCircle_f32 rfl dX4_placeCircle_87 ?_
        refine z_iconst (v := (-1 : Int32)) C dX4_placeCircle_90 (by decide) ?_
        refine z_ixor C dX4_placeCircle_91 ?_
        refine z_iand C dX4_placeCircle_92 ?_
        refine z_if_ne (tgt := 109) C dX4_placeCircle_93 (by decide) (fun c16 => ?_) (fun c16 => ?_)
        · have hm := zIf hm c16
          obtain ⟨x17, e_x17, hm⟩ := zLt_of hm
          refine z_iinc (j := 5) (v := x17) (d := (1 : Int32)) (lv' := [(5, .int x17), (0, .ref (ad 6)), (1, .ref (ad 1)), (2, .int v2), (3, .int v3), (4, .int v4)]) C dX4_placeCircle_109 rfl (by decide) e_x17 (by decide) rfl ?_
          refine z_goto (tgt := 57) C dX4_placeCircle_112 (by decide) ?_
          exact z_sub [1, 2, 3, 4, 5, 0] rfl (ih _ _ _ _ _ hm)
        · have hm := zIt hm c16
          refine z_aload_n C dX4_placeCircle_96 rfl 0 rfl ?_
          refine z_iload C dX4_placeCircle_97 5 rfl ?_
          obtain ⟨x18, s19, q_s19, hm⟩ := zBd_of hm
          refine z_cV (vd := true) (Cn := RX4) (k := 6) C 1 [.int v5] [] (c_X4_place (zC_I C) (zC_st C)  q_s19) gX4_placeCircle_X4_place (by decide +kernel) kX6 vc4 rfl rfl dX4_placeCircle_99 rfl ⟨Nat.le_of_ble_eq_true rfl, Nat.le_of_ble_eq_true rfl⟩ rfl (Nat.le_of_ble_eq_true rfl) ?_
          refine z_aload_n C dX4_placeCircle_102 rfl 0 rfl ?_
          refine z_aload_n C dX4_placeCircle_103 rfl 1 rfl ?_
          refine z_iload C dX4_placeCircle_104 5 rfl ?_
          obtain ⟨x20, s21, q_s21, hm⟩ := zBd_of hm
          refine z_cV (vd := true) (Cn := RX4) (k := 6) C 2 [.ref (ad 1), .int v5] [] (c_X4_direct (zC_I C) (zC_st C)  q_s21) gX4_placeCircle_X4_direct (by decide +kernel) kX6 vc4 rfl rfl dX4_placeCircle_106 rfl ⟨Nat.le_of_ble_eq_true rfl, Nat.le_of_ble_eq_true rfl⟩ rfl (Nat.le_of_ble_eq_true rfl) ?_
          obtain ⟨x22, e_x22, hm⟩ := zLt_of hm
          refine z_iinc (j := 5) (v := x22) (d := (1 : Int32)) (lv' := [(5, .int x22), (0, .ref (ad 6)), (1, .ref (ad 1)), (2, .int v2), (3, .int v3), (4, .int v4)]) C dX4_placeCircle_109 rfl (by decide) e_x22 (by decide) rfl ?_
          refine z_goto (tgt := 57) C dX4_placeCircle_112 (by decide) ?_
          exact z_sub [1, 2, 3, 4, 5, 0] rfl (ih _ _ _ _ _ hm)
set_option maxRecDepth 100000 in
set_option maxHeartbeats 4000000 in
theorem w_X4_placeCircle_j47 {h : zH} {ad : Nat → Nat} {G : zG} (C : zC h ad zLX 6 G cX4_placeCircle RX4 wsX4_placeCircle 4 92) {n : Nat} {r : Int32} {s9 : zS} (hQ : zQ h ad zLX G false (.inl r) s9 (some .boolean)) : ∀ (f : Nat) (v2 : Int32) (v3 : Int32) (v4 : Int32) (s : zS), m_X4_placeCircle_j47 n f v2 v3 v4 s = some (r, s9) → zV h ad zLX 6 G s 47 [(0, .ref (ad 6)), (1, .ref (ad 1)), (2, .int v2), (3, .int v3), (4, .int v4)] [] := by
  intro f
  induction f with
  | zero => intro v2 v3 v4 s hm; simp [m_X4_placeCircle_j47] at hm
  | succ f ih =>
    intro v2 v3 v4 s hm
    rw [m_X4_placeCircle_j47] at hm
    refine z_iload C dX4_placeCircle_47 4 rfl ?_
    refine z_bipush (v := (16 : Int32)) C dX4_placeCircle_49 (by decide) ?_
    refine z_icmp_ge (tgt := 121) C dX4_placeCircle_51 (by decide) (fun c23 => ?_) (fun c23 => ?_)
    · have hm := zIt hm c23
      refine z_iload_n C dX4_placeCircle_121 rfl 2 rfl ?_
      refine z_aload_n C dX4_placeCircle_122 rfl 0 rfl ?_
      refine z_get C kX6 vc4 eX4_placeCircle_uX4 4 (by decide) rfl eX4_placeCircle_f32 rfl dX4_placeCircle_123 ?_
      refine z_iconst (v := (-1 : Int32)) C dX4_placeCircle_126 (by decide) ?_
      refine z_ixor C dX4_placeCircle_127 ?_
      refine z_iand C dX4_placeCircle_128 ?_
      refine z_if_ne (tgt := 136) C dX4_placeCircle_129 (by decide) (fun c24 => ?_) (fun c24 => ?_)
      · have hm := zIf hm c24
        refine z_iconst (v := (0 : Int32)) C dX4_placeCircle_136 (by decide) ?_
        exact z_sub [0, 1, 3] rfl (w_X4_placeCircle_j137 C hQ  _ _ _ hm)
      · have hm := zIt hm c24
        refine z_iconst (v := (1 : Int32)) C dX4_placeCircle_132 (by decide) ?_
        refine z_goto (tgt := 137) C dX4_placeCircle_133 (by decide) ?_
        exact z_sub [0, 1, 3] rfl (w_X4_placeCircle_j137 C hQ  _ _ _ hm)
    · have hm := zIf hm c23
      refine z_iconst (v := (0 : Int32)) C dX4_placeCircle_54 (by decide) ?_
      refine z_istore (y := (0 : Int32)) (lv' := [(5, .int (0 : Int32)), (0, .ref (ad 6)), (1, .ref (ad 1)), (2, .int v2), (3, .int v3), (4, .int v4)]) C dX4_placeCircle_55 (by decide) rfl rfl ?_
      exact z_sub [1, 2, 3, 4, 5, 0] rfl (w_X4_placeCircle_j57 C hQ ih _ _ _ _ _ _ hm)
set_option maxRecDepth 100000 in
set_option maxHeartbeats 4000000 in
theorem w_X4_placeCircle_e {h : zH} {ad : Nat → Nat} {G : zG} (C : zC h ad zLX 6 G cX4_placeCircle RX4 wsX4_placeCircle 4 92) {n : Nat} {r : Int32} {s9 : zS} (hQ : zQ h ad zLX G false (.inl r) s9 (some .boolean)) {v2 : Int32} (s : zS) (hm : m_X4_placeCircle n v2 s = some (r, s9)) : zV h ad zLX 6 G s 0 [(0, .ref (ad 6)), (1, .ref (ad 1)), (2, .int v2)] [] := by
  rw [m_X4_placeCircle] at hm
  refine z_aload_n C dX4_placeCircle_0 rfl 0 rfl ?_
  refine z_aload_n C dX4_placeCircle_1 rfl 1 rfl ?_
  refine z_iload_n C dX4_placeCircle_2 rfl 2 rfl ?_
  obtain ⟨x25, s26, q_s26, hm⟩ := zBd_of hm
  refine z_cV (vd := false) (Cn := RX4) (k := 6) C 2 [.ref (ad 1), .int v2] [] (c_X4_onlyLimit (zC_I C) (zC_st C)  q_s26) gX4_placeCircle_X4_onlyLimit (by decide +kernel) kX6 vc4 rfl rfl dX4_placeCircle_3 rfl ⟨Nat.le_of_ble_eq_true rfl, Nat.le_of_ble_eq_true rfl⟩ rfl (Nat.le_of_ble_eq_true rfl) ?_
  refine z_istore_n (y := x25) (lv' := [(3, .int x25), (0, .ref (ad 6)), (1, .ref (ad 1)), (2, .int v2)]) C dX4_placeCircle_6 rfl (by decide) rfl rfl ?_
  refine z_iload_n C dX4_placeCircle_7 rfl 0 rfl ?_
  refine z_iconst (v := (-1 : Int32)) C dX4_placeCircle_8 (by decide) ?_
  refine z_icmp_eq (tgt := 24) C dX4_placeCircle_9 (by decide) (fun c27 => ?_) (fun c27 => ?_)
  · have hm := zIt hm c27
    refine z_iconst (v := (0 : Int32)) C dX4_placeCircle_24 (by decide) ?_
    exact z_zret0 C hQ (zRt_of hm).1 (zRt_of hm).2 (by decide) dX4_placeCircle_25
  · have hm := zIf hm c27
    refine z_iload_n C dX4_placeCircle_12 rfl 3 rfl ?_
    refine z_aload_n C dX4_placeCircle_13 rfl 2 rfl ?_
    refine z_iload_n C dX4_placeCircle_14 rfl 0 rfl ?_
    obtain ⟨x28, s29, q_s29, hm⟩ := zBd_of hm
    refine z_cV (vd := false) (Cn := RX5) (k := 1) C 1 [.int x25] [.int v2] (c_X5_first (zC_I C) (zC_st C)  q_s29) gX4_placeCircle_X5_first (by decide +kernel) kX1 vc5 rfl rfl dX4_placeCircle_15 rfl ⟨Nat.le_of_ble_eq_true rfl, Nat.le_of_ble_eq_true rfl⟩ rfl (Nat.le_of_ble_eq_true rfl) ?_
    obtain ⟨x30, s31, q_s31, hm⟩ := zBd_of hm
    refine z_cSN (vd := false) (host := "TaxEngine") C 2 [.int v2, .int x28] [] (c_X7_has (zC_I C) (zC_st C)  q_s31) gX4_placeCircle_X7_has_n61 eX4_placeCircle_n61 eX4_placeCircle_tX7_has eX4_placeCircle_iX7_has (by decide +kernel) rfl dX4_placeCircle_18 rfl ⟨Nat.le_of_ble_eq_true rfl, Nat.le_of_ble_eq_true rfl⟩ rfl (Nat.le_of_ble_eq_true rfl) ?_
    refine z_if_eq (tgt := 26) C dX4_placeCircle_21 (by decide) (fun c32 => ?_) (fun c32 => ?_)
    · have hm := zIt hm c32
      refine z_aload_n C dX4_placeCircle_26 rfl 1 rfl ?_
      refine z_iload_n C dX4_placeCircle_27 rfl 0 rfl ?_
      obtain ⟨x33, s34, q_s34, hm⟩ := zBd_of hm
      refine z_cSN (vd := false) (host := "TaxEngine") C 1 [.int x25] [.ref (ad 6)] (c_X7_bit (zC_I C) (zC_st C)  q_s34) gX4_placeCircle_X7_bit_n77 eX4_placeCircle_n77 eX4_placeCircle_tX7_bit eX4_placeCircle_iX7_bit (by decide +kernel) rfl dX4_placeCircle_28 rfl ⟨Nat.le_of_ble_eq_true rfl, Nat.le_of_ble_eq_true rfl⟩ rfl (Nat.le_of_ble_eq_true rfl) ?_
      obtain ⟨s35, e_s35, hm⟩ := zLt_of hm
      refine z_put C kX6 vc4 eX4_placeCircle_uX4 tyX4_ok nmX4 5 (by decide) rfl eX4_placeCircle_f87 rfl rfl rfl e_s35 dX4_placeCircle_31 ?_
      refine z_aload_n C dX4_placeCircle_34 rfl 1 rfl ?_
      refine z_iconst (v := (0 : Int32)) C dX4_placeCircle_35 (by decide) ?_
      obtain ⟨s36, e_s36, hm⟩ := zLt_of hm
      refine z_put C kX6 vc4 eX4_placeCircle_uX4 tyX4_ok nmX4 6 (by decide) rfl eX4_placeCircle_f90 rfl rfl rfl e_s36 dX4_placeCircle_36 ?_
      refine z_aload_n C dX4_placeCircle_39 rfl 1 rfl ?_
      refine z_iload_n C dX4_placeCircle_40 rfl 0 rfl ?_
      obtain ⟨x37, s38, q_s38, hm⟩ := zBd_of hm
      refine z_cV (vd := true) (Cn := RX4) (k := 6) C 1 [.int x25] [] (c_X4_place (zC_I C) (zC_st C)  q_s38) gX4_placeCircle_X4_place (by decide +kernel) kX6 vc4 rfl rfl dX4_placeCircle_41 rfl ⟨Nat.le_of_ble_eq_true rfl, Nat.le_of_ble_eq_true rfl⟩ rfl (Nat.le_of_ble_eq_true rfl) ?_
      refine z_iconst (v := (0 : Int32)) C dX4_placeCircle_44 (by decide) ?_
      refine z_istore (y := (0 : Int32)) (lv' := [(4, .int (0 : Int32)), (3, .int x25), (0, .ref (ad 6)), (1, .ref (ad 1)), (2, .int v2)]) C dX4_placeCircle_45 (by decide) rfl rfl ?_
      exact z_sub [2, 3, 4, 1, 0] rfl (w_X4_placeCircle_j47 C hQ  _ _ _ _ _ hm)
    · have hm := zIf hm c32
      refine z_iconst (v := (0 : Int32)) C dX4_placeCircle_24 (by decide) ?_
      exact z_zret0 C hQ (zRt_of hm).1 (zRt_of hm).2 (by decide) dX4_placeCircle_25
set_option maxRecDepth 100000 in
set_option maxHeartbeats 4000000 in
theorem c_X4_placeCircle {h : zH} {ad : Nat → Nat} (hI : zI ad zLX.length) (hst : h.1.stackTraces = false) {n : Nat} {v2 : Int32} {s s9 : zS} {r : Int32} (hm : m_X4_placeCircle n v2 s = some (r, s9)) : zMR h ad zLX false yX4_placeCircle wsX4_placeCircle 4 92 [.ref (ad 6), .ref (ad 1), .int v2] s (.inl r) s9 :=
  z_start (cc := cX4_placeCircle) (nL := 6) (ret := (some .boolean)) (own := RX4) (by decide +kernel) rfl rfl hI hst (Nat.le_of_ble_eq_true rfl) (fun G C hQ => w_X4_placeCircle_e C hQ _ hm)
set_option maxRecDepth 100000 in
theorem eX4_make_uX4 : ∀ w ∈ wsX40, w ∈ wsX4_make := by decide +kernel
set_option maxRecDepth 100000 in
theorem eX4_make_f32 : Cond.fieldLink RX4 32 RX4 (TX4 4).2.1 (TX4 4).2.2.1 ∈ wsX4_make := by decide +kernel
set_option maxRecDepth 100000 in
theorem eX4_make_c35 : Cond.constant RX4 35 (65535 : Int32) ∈ wsX4_make := by decide +kernel
set_option maxRecDepth 100000 in
theorem eX4_make_f28 : Cond.fieldLink RX4 28 RX4 (TX4 3).2.1 (TX4 3).2.2.1 ∈ wsX4_make := by decide +kernel
set_option maxRecDepth 100000 in
set_option maxHeartbeats 4000000 in
theorem w_X4_make_j68 {h : zH} {ad : Nat → Nat} {G : zG} (C : zC h ad zLX 4 G cX4_make RX4 wsX4_make 5 117) {n : Nat} {r : Int32} {s9 : zS} (hQ : zQ h ad zLX G false (.inl r) s9 (some .boolean)) {rec21 : Int32 → zS → Option (Int32 × zS)} {rec38 : Int32 → Int32 → zS → Option (Int32 × zS)} (hrec21 : ∀ (v2 : Int32) (s : zS), rec21 v2 s = some (r, s9) → zV h ad zLX 4 G s 21 [(0, .ref (ad 6)), (1, .ref (ad 1)), (2, .int v2)] []) (hrec38 : ∀ (v2 : Int32) (v3 : Int32) (s : zS), rec38 v2 v3 s = some (r, s9) → zV h ad zLX 4 G s 38 [(0, .ref (ad 6)), (1, .ref (ad 1)), (2, .int v2), (3, .int v3)] []) (v2 : Int32) (v3 : Int32) (s : zS) (hm : m_X4_make_j68 rec21 rec38 n v2 v3 s = some (r, s9)) : zV h ad zLX 4 G s 68 [(0, .ref (ad 6)), (1, .ref (ad 1)), (2, .int v2), (3, .int v3)] [] := by
  rw [m_X4_make_j68] at hm
  refine z_aload_n C dX4_make_68 rfl 0 rfl ?_
  refine z_iload_n C dX4_make_69 rfl 3 rfl ?_
  obtain ⟨x1, s2, q_s2, hm⟩ := zBd_of hm
  refine z_cV (vd := false) (Cn := RX4) (k := 6) C 1 [.int v3] [] (c_X4_isReady (zC_I C) (zC_st C)  q_s2) gX4_make_X4_isReady (by decide +kernel) kX6 vc4 rfl rfl dX4_make_70 rfl ⟨Nat.le_of_ble_eq_true rfl, Nat.le_of_ble_eq_true rfl⟩ rfl (Nat.le_of_ble_eq_true rfl) ?_
  refine z_if_eq (tgt := 91) C dX4_make_73 (by decide) (fun c3 => ?_) (fun c3 => ?_)
  · have hm := zIt hm c3
    obtain ⟨x4, e_x4, hm⟩ := zLt_of hm
    refine z_iinc (j := 3) (v := x4) (d := (1 : Int32)) (lv' := [(3, .int x4), (0, .ref (ad 6)), (1, .ref (ad 1)), (2, .int v2)]) C dX4_make_91 rfl (by decide) e_x4 (by decide) rfl ?_
    refine z_goto (tgt := 38) C dX4_make_94 (by decide) ?_
    exact z_sub [1, 2, 3, 0] rfl (hrec38 _ _ _ hm)
  · have hm := zIf hm c3
    refine z_aload_n C dX4_make_76 rfl 0 rfl ?_
    refine z_aload_n C dX4_make_77 rfl 1 rfl ?_
    refine z_aload_n C dX4_make_78 rfl 0 rfl ?_
    refine z_iload_n C dX4_make_79 rfl 3 rfl ?_
    obtain ⟨x5, s6, q_s6, hm⟩ := zBd_of hm
    refine z_cV (vd := false) (Cn := RX4) (k := 6) C 1 [.int v3] [.ref (ad 1), .ref (ad 6)] (c_X4_groupOf (zC_I C) (zC_st C)  q_s6) gX4_make_X4_groupOf (by decide +kernel) kX6 vc4 rfl rfl dX4_make_80 rfl ⟨Nat.le_of_ble_eq_true rfl, Nat.le_of_ble_eq_true rfl⟩ rfl (Nat.le_of_ble_eq_true rfl) ?_
    obtain ⟨x7, s8, q_s8, hm⟩ := zBd_of hm
    refine z_cV (vd := false) (Cn := RX4) (k := 6) C 2 [.ref (ad 1), .int x5] [] (c_X4_placeCircle (zC_I C) (zC_st C)  q_s8) gX4_make_X4_placeCircle (by decide +kernel) kX6 vc4 rfl rfl dX4_make_83 rfl ⟨Nat.le_of_ble_eq_true rfl, Nat.le_of_ble_eq_true rfl⟩ rfl (Nat.le_of_ble_eq_true rfl) ?_
    refine z_if_ne (tgt := 91) C dX4_make_86 (by decide) (fun c9 => ?_) (fun c9 => ?_)
    · have hm := zIf hm c9
      obtain ⟨x10, e_x10, hm⟩ := zLt_of hm
      refine z_iinc (j := 3) (v := x10) (d := (1 : Int32)) (lv' := [(3, .int x10), (0, .ref (ad 6)), (1, .ref (ad 1)), (2, .int v2)]) C dX4_make_91 rfl (by decide) e_x10 (by decide) rfl ?_
      refine z_goto (tgt := 38) C dX4_make_94 (by decide) ?_
      exact z_sub [1, 2, 3, 0] rfl (hrec38 _ _ _ hm)
    · have hm := zIt hm c9
      refine z_iconst (v := (0 : Int32)) C dX4_make_89 (by decide) ?_
      exact z_zret0 C hQ (zRt_of hm).1 (zRt_of hm).2 (by decide) dX4_make_90
set_option maxRecDepth 100000 in
set_option maxHeartbeats 4000000 in
theorem w_X4_make_j38 {h : zH} {ad : Nat → Nat} {G : zG} (C : zC h ad zLX 4 G cX4_make RX4 wsX4_make 5 117) {n : Nat} {r : Int32} {s9 : zS} (hQ : zQ h ad zLX G false (.inl r) s9 (some .boolean)) {rec21 : Int32 → zS → Option (Int32 × zS)} (hrec21 : ∀ (v2 : Int32) (s : zS), rec21 v2 s = some (r, s9) → zV h ad zLX 4 G s 21 [(0, .ref (ad 6)), (1, .ref (ad 1)), (2, .int v2)] []) : ∀ (f : Nat) (v2 : Int32) (v3 : Int32) (s : zS), m_X4_make_j38 rec21 n f v2 v3 s = some (r, s9) → zV h ad zLX 4 G s 38 [(0, .ref (ad 6)), (1, .ref (ad 1)), (2, .int v2), (3, .int v3)] [] := by
  intro f
  induction f with
  | zero => intro v2 v3 s hm; simp [m_X4_make_j38] at hm
  | succ f ih =>
    intro v2 v3 s hm
    rw [m_X4_make_j38] at hm
    refine z_iload_n C dX4_make_38 rfl 3 rfl ?_
    refine z_bipush (v := (16 : Int32)) C dX4_make_39 (by decide) ?_
    refine z_icmp_ge (tgt := 97) C dX4_make_41 (by decide) (fun c11 => ?_) (fun c11 => ?_)
    · have hm := zIt hm c11
      obtain ⟨x12, e_x12, hm⟩ := zLt_of hm
      refine z_iinc (j := 2) (v := x12) (d := (1 : Int32)) (lv' := [(2, .int x12), (0, .ref (ad 6)), (1, .ref (ad 1)), (3, .int v3)]) C dX4_make_97 rfl (by decide) e_x12 (by decide) rfl ?_
      refine z_goto (tgt := 21) C dX4_make_100 (by decide) ?_
      exact z_sub [1, 2, 0] rfl (hrec21 _ _ hm)
    · have hm := zIf hm c11
      refine z_aload_n C dX4_make_44 rfl 0 rfl ?_
      refine z_iload_n C dX4_make_45 rfl 3 rfl ?_
      obtain ⟨x13, s14, q_s14, hm⟩ := zBd_of hm
      refine z_cV (vd := false) (Cn := RX4) (k := 6) C 1 [.int v3] [] (c_X4_isReady (zC_I C) (zC_st C)  q_s14) gX4_make_X4_isReady (by decide +kernel) kX6 vc4 rfl rfl dX4_make_46 rfl ⟨Nat.le_of_ble_eq_true rfl, Nat.le_of_ble_eq_true rfl⟩ rfl (Nat.le_of_ble_eq_true rfl) ?_
      refine z_if_eq (tgt := 68) C dX4_make_49 (by decide) (fun c15 => ?_) (fun c15 => ?_)
      · have hm := zIt hm c15
        exact z_sub [0, 1, 2, 3] rfl (w_X4_make_j68 C hQ hrec21 ih _ _ _ hm)
      · have hm := zIf hm c15
        refine z_aload_n C dX4_make_52 rfl 0 rfl ?_
        refine z_iload_n C dX4_make_53 rfl 3 rfl ?_
        obtain ⟨x16, s17, q_s17, hm⟩ := zBd_of hm
        refine z_cV (vd := false) (Cn := RX4) (k := 6) C 1 [.int v3] [] (c_X4_isCircular (zC_I C) (zC_st C)  q_s17) gX4_make_X4_isCircular (by decide +kernel) kX6 vc4 rfl rfl dX4_make_54 rfl ⟨Nat.le_of_ble_eq_true rfl, Nat.le_of_ble_eq_true rfl⟩ rfl (Nat.le_of_ble_eq_true rfl) ?_
        refine z_if_ne (tgt := 68) C dX4_make_57 (by decide) (fun c18 => ?_) (fun c18 => ?_)
        · have hm := zIf hm c18
          exact z_sub [0, 1, 2, 3] rfl (w_X4_make_j68 C hQ hrec21 ih _ _ _ hm)
        · have hm := zIt hm c18
          refine z_aload_n C dX4_make_60 rfl 0 rfl ?_
          refine z_iload_n C dX4_make_61 rfl 3 rfl ?_
          obtain ⟨x19, s20, q_s20, hm⟩ := zBd_of hm
          refine z_cV (vd := true) (Cn := RX4) (k := 6) C 1 [.int v3] [] (c_X4_place (zC_I C) (zC_st C)  q_s20) gX4_make_X4_place (by decide +kernel) kX6 vc4 rfl rfl dX4_make_62 rfl ⟨Nat.le_of_ble_eq_true rfl, Nat.le_of_ble_eq_true rfl⟩ rfl (Nat.le_of_ble_eq_true rfl) ?_
          refine z_goto (tgt := 91) C dX4_make_65 (by decide) ?_
          obtain ⟨x21, e_x21, hm⟩ := zLt_of hm
          refine z_iinc (j := 3) (v := x21) (d := (1 : Int32)) (lv' := [(3, .int x21), (0, .ref (ad 6)), (1, .ref (ad 1)), (2, .int v2)]) C dX4_make_91 rfl (by decide) e_x21 (by decide) rfl ?_
          refine z_goto (tgt := 38) C dX4_make_94 (by decide) ?_
          exact z_sub [1, 2, 3, 0] rfl (ih _ _ _ hm)
set_option maxRecDepth 100000 in
set_option maxHeartbeats 4000000 in
theorem w_X4_make_j21 {h : zH} {ad : Nat → Nat} {G : zG} (C : zC h ad zLX 4 G cX4_make RX4 wsX4_make 5 117) {n : Nat} {r : Int32} {s9 : zS} (hQ : zQ h ad zLX G false (.inl r) s9 (some .boolean)) : ∀ (f : Nat) (v2 : Int32) (s : zS), m_X4_make_j21 n f v2 s = some (r, s9) → zV h ad zLX 4 G s 21 [(0, .ref (ad 6)), (1, .ref (ad 1)), (2, .int v2)] [] := by
  intro f
  induction f with
  | zero => intro v2 s hm; simp [m_X4_make_j21] at hm
  | succ f ih =>
    intro v2 s hm
    rw [m_X4_make_j21] at hm
    refine z_iload_n C dX4_make_21 rfl 2 rfl ?_
    refine z_bipush (v := (16 : Int32)) C dX4_make_22 (by decide) ?_
    refine z_icmp_ge (tgt := 103) C dX4_make_24 (by decide) (fun c22 => ?_) (fun c22 => ?_)
    · have hm := zIt hm c22
      refine z_iconst (v := (1 : Int32)) C dX4_make_103 (by decide) ?_
      exact z_zret0 C hQ (zRt_of hm).1 (zRt_of hm).2 (by decide) dX4_make_104
    · have hm := zIf hm c22
      refine z_aload_n C dX4_make_27 rfl 0 rfl ?_
      refine z_get C kX6 vc4 eX4_make_uX4 4 (by decide) rfl eX4_make_f32 rfl dX4_make_28 ?_
      refine z_ldc (v := (65535 : Int32)) C eX4_make_c35 dX4_make_31 ?_
      refine z_icmp_eq (tgt := 103) C dX4_make_33 (by decide) (fun c23 => ?_) (fun c23 => ?_)
      · have hm := zIt hm c23
        refine z_iconst (v := (1 : Int32)) C dX4_make_103 (by decide) ?_
        exact z_zret0 C hQ (zRt_of hm).1 (zRt_of hm).2 (by decide) dX4_make_104
      · have hm := zIf hm c23
        refine z_iconst (v := (0 : Int32)) C dX4_make_36 (by decide) ?_
        refine z_istore_n (y := (0 : Int32)) (lv' := [(3, .int (0 : Int32)), (0, .ref (ad 6)), (1, .ref (ad 1)), (2, .int v2)]) C dX4_make_37 rfl (by decide) rfl rfl ?_
        exact z_sub [1, 2, 3, 0] rfl (w_X4_make_j38 C hQ ih _ _ _ _ hm)
set_option maxRecDepth 100000 in
set_option maxHeartbeats 4000000 in
theorem w_X4_make_e {h : zH} {ad : Nat → Nat} {G : zG} (C : zC h ad zLX 4 G cX4_make RX4 wsX4_make 5 117) {n : Nat} {r : Int32} {s9 : zS} (hQ : zQ h ad zLX G false (.inl r) s9 (some .boolean))  (s : zS) (hm : m_X4_make n s = some (r, s9)) : zV h ad zLX 4 G s 0 [(0, .ref (ad 6)), (1, .ref (ad 1))] [] := by
  rw [m_X4_make] at hm
  refine z_aload_n C dX4_make_0 rfl 0 rfl ?_
  refine z_aload_n C dX4_make_1 rfl 1 rfl ?_
  obtain ⟨x24, s25, q_s25, hm⟩ := zBd_of hm
  refine z_cV (vd := true) (Cn := RX4) (k := 6) C 1 [.ref (ad 1)] [] (c_X4_findReach (zC_I C) (zC_st C)  q_s25) gX4_make_X4_findReach (by decide +kernel) kX6 vc4 rfl rfl dX4_make_2 rfl ⟨Nat.le_of_ble_eq_true rfl, Nat.le_of_ble_eq_true rfl⟩ rfl (Nat.le_of_ble_eq_true rfl) ?_
  refine z_aload_n C dX4_make_5 rfl 0 rfl ?_
  obtain ⟨x26, s27, q_s27, hm⟩ := zBd_of hm
  refine z_cV (vd := true) (Cn := RX4) (k := 6) C 0 [] [] (c_X4_findGroups (zC_I C) (zC_st C)  q_s27) gX4_make_X4_findGroups (by decide +kernel) kX6 vc4 rfl rfl dX4_make_6 rfl ⟨Nat.le_of_ble_eq_true rfl, Nat.le_of_ble_eq_true rfl⟩ rfl (Nat.le_of_ble_eq_true rfl) ?_
  refine z_aload_n C dX4_make_9 rfl 0 rfl ?_
  refine z_iconst (v := (0 : Int32)) C dX4_make_10 (by decide) ?_
  obtain ⟨s28, e_s28, hm⟩ := zLt_of hm
  refine z_put C kX6 vc4 eX4_make_uX4 tyX4_ok nmX4 3 (by decide) rfl eX4_make_f28 rfl rfl rfl e_s28 dX4_make_11 ?_
  refine z_aload_n C dX4_make_14 rfl 0 rfl ?_
  refine z_iconst (v := (0 : Int32)) C dX4_make_15 (by decide) ?_
  obtain ⟨s29, e_s29, hm⟩ := zLt_of hm
  refine z_put C kX6 vc4 eX4_make_uX4 tyX4_ok nmX4 4 (by decide) rfl eX4_make_f32 rfl rfl rfl e_s29 dX4_make_16 ?_
  refine z_iconst (v := (0 : Int32)) C dX4_make_19 (by decide) ?_
  refine z_istore_n (y := (0 : Int32)) (lv' := [(2, .int (0 : Int32)), (0, .ref (ad 6)), (1, .ref (ad 1))]) C dX4_make_20 rfl (by decide) rfl rfl ?_
  exact z_sub [1, 2, 0] rfl (w_X4_make_j21 C hQ  _ _ _ hm)
set_option maxRecDepth 100000 in
set_option maxHeartbeats 4000000 in
theorem c_X4_make {h : zH} {ad : Nat → Nat} (hI : zI ad zLX.length) (hst : h.1.stackTraces = false) {n : Nat} {s s9 : zS} {r : Int32} (hm : m_X4_make n s = some (r, s9)) : zMR h ad zLX false yX4_make wsX4_make 5 117 [.ref (ad 6), .ref (ad 1)] s (.inl r) s9 :=
  z_start (cc := cX4_make) (nL := 4) (ret := (some .boolean)) (own := RX4) (by decide +kernel) rfl rfl hI hst (Nat.le_of_ble_eq_true rfl) (fun G C hQ => w_X4_make_e C hQ _ hm)
set_option maxRecDepth 100000 in
theorem eX4_lineAt_uX4 : ∀ w ∈ wsX40, w ∈ wsX4_lineAt := by decide +kernel
set_option maxRecDepth 100000 in
theorem eX4_lineAt_f18 : Cond.fieldLink RX4 18 RX4 (TX4 2).2.1 (TX4 2).2.2.1 ∈ wsX4_lineAt := by decide +kernel
set_option maxRecDepth 100000 in
theorem eX4_lineAt_tX7_at : Cond.static yX7_at ∈ wsX4_lineAt := by decide +kernel
set_option maxRecDepth 100000 in
theorem eX4_lineAt_iX7_at : Cond.initialized yX7_at.cls ∈ wsX4_lineAt := by decide +kernel
set_option maxRecDepth 100000 in
theorem eX4_lineAt_n55 : (RX4, 55, yX7_at, "TaxEngine") ∈ zN := by decide +kernel
set_option maxRecDepth 100000 in
set_option maxHeartbeats 4000000 in
theorem w_X4_lineAt_e {h : zH} {ad : Nat → Nat} {G : zG} (C : zC h ad zLX 2 G cX4_lineAt RX4 wsX4_lineAt 1 21) {n : Nat} {r : Int32} {s9 : zS} (hQ : zQ h ad zLX G false (.inl r) s9 (some .int)) {v1 : Int32} (s : zS) (hm : m_X4_lineAt n v1 s = some (r, s9)) : zV h ad zLX 2 G s 0 [(0, .ref (ad 6)), (1, .int v1)] [] := by
  rw [m_X4_lineAt] at hm
  refine z_aload_n C dX4_lineAt_0 rfl 0 rfl ?_
  refine z_getr C kX6 vc4 eX4_lineAt_uX4 2 (by decide) rfl eX4_lineAt_f18 rfl dX4_lineAt_1 ?_
  refine z_iload_n C dX4_lineAt_4 rfl 1 rfl ?_
  obtain ⟨x1, s2, q_s2, hm⟩ := zBd_of hm
  refine z_cSN (vd := false) (host := "TaxEngine") C 2 [.ref (ad 9), .int v1] [] (c_X7_at (zC_I C) (zC_st C) kX9 q_s2) gX4_lineAt_X7_at_n55 eX4_lineAt_n55 eX4_lineAt_tX7_at eX4_lineAt_iX7_at (by decide +kernel) rfl dX4_lineAt_5 rfl ⟨Nat.le_of_ble_eq_true rfl, Nat.le_of_ble_eq_true rfl⟩ rfl (Nat.le_of_ble_eq_true rfl) ?_
  exact z_iret0 C hQ (zRt_of hm).1 (zRt_of hm).2 dX4_lineAt_8
set_option maxRecDepth 100000 in
set_option maxHeartbeats 4000000 in
theorem c_X4_lineAt {h : zH} {ad : Nat → Nat} (hI : zI ad zLX.length) (hst : h.1.stackTraces = false) {n : Nat} {v1 : Int32} {s s9 : zS} {r : Int32} (hm : m_X4_lineAt n v1 s = some (r, s9)) : zMR h ad zLX false yX4_lineAt wsX4_lineAt 1 21 [.ref (ad 6), .int v1] s (.inl r) s9 :=
  z_start (cc := cX4_lineAt) (nL := 2) (ret := (some .int)) (own := RX4) (by decide +kernel) rfl rfl hI hst (Nat.le_of_ble_eq_true rfl) (fun G C hQ => w_X4_lineAt_e C hQ _ hm)
set_option maxRecDepth 100000 in
set_option maxHeartbeats 4000000 in
theorem w_X4_placeOf_j2 {h : zH} {ad : Nat → Nat} {G : zG} (C : zC h ad zLX 3 G cX4_placeOf RX4 wsX4_placeOf 2 42) {n : Nat} {r : Int32} {s9 : zS} (hQ : zQ h ad zLX G false (.inl r) s9 (some .int)) : ∀ (f : Nat) (v1 : Int32) (v2 : Int32) (s : zS), m_X4_placeOf_j2 n f v1 v2 s = some (r, s9) → zV h ad zLX 3 G s 2 [(0, .ref (ad 6)), (1, .int v1), (2, .int v2)] [] := by
  intro f
  induction f with
  | zero => intro v1 v2 s hm; simp [m_X4_placeOf_j2] at hm
  | succ f ih =>
    intro v1 v2 s hm
    rw [m_X4_placeOf_j2] at hm
    refine z_iload_n C dX4_placeOf_2 rfl 2 rfl ?_
    refine z_bipush (v := (16 : Int32)) C dX4_placeOf_3 (by decide) ?_
    refine z_icmp_ge (tgt := 25) C dX4_placeOf_5 (by decide) (fun c1 => ?_) (fun c1 => ?_)
    · have hm := zIt hm c1
      refine z_iconst (v := (-1 : Int32)) C dX4_placeOf_25 (by decide) ?_
      exact z_iret0 C hQ (zRt_of hm).1 (zRt_of hm).2 dX4_placeOf_26
    · have hm := zIf hm c1
      refine z_aload_n C dX4_placeOf_8 rfl 0 rfl ?_
      refine z_iload_n C dX4_placeOf_9 rfl 2 rfl ?_
      obtain ⟨x2, s3, q_s3, hm⟩ := zBd_of hm
      refine z_cV (vd := false) (Cn := RX4) (k := 6) C 1 [.int v2] [] (c_X4_lineAt (zC_I C) (zC_st C)  q_s3) gX4_placeOf_X4_lineAt (by decide +kernel) kX6 vc4 rfl rfl dX4_placeOf_10 rfl ⟨Nat.le_of_ble_eq_true rfl, Nat.le_of_ble_eq_true rfl⟩ rfl (Nat.le_of_ble_eq_true rfl) ?_
      refine z_iload_n C dX4_placeOf_13 rfl 1 rfl ?_
      refine z_icmp_ne (tgt := 19) C dX4_placeOf_14 (by decide) (fun c4 => ?_) (fun c4 => ?_)
      · have hm := zIf hm c4
        obtain ⟨x5, e_x5, hm⟩ := zLt_of hm
        refine z_iinc (j := 2) (v := x5) (d := (1 : Int32)) (lv' := [(2, .int x5), (0, .ref (ad 6)), (1, .int v1)]) C dX4_placeOf_19 rfl (by decide) e_x5 (by decide) rfl ?_
        refine z_goto (tgt := 2) C dX4_placeOf_22 (by decide) ?_
        exact z_sub [1, 2, 0] rfl (ih _ _ _ hm)
      · have hm := zIt hm c4
        refine z_iload_n C dX4_placeOf_17 rfl 2 rfl ?_
        exact z_iret0 C hQ (zRt_of hm).1 (zRt_of hm).2 dX4_placeOf_18
set_option maxRecDepth 100000 in
set_option maxHeartbeats 4000000 in
theorem w_X4_placeOf_e {h : zH} {ad : Nat → Nat} {G : zG} (C : zC h ad zLX 3 G cX4_placeOf RX4 wsX4_placeOf 2 42) {n : Nat} {r : Int32} {s9 : zS} (hQ : zQ h ad zLX G false (.inl r) s9 (some .int)) {v1 : Int32} (s : zS) (hm : m_X4_placeOf n v1 s = some (r, s9)) : zV h ad zLX 3 G s 0 [(0, .ref (ad 6)), (1, .int v1)] [] := by
  rw [m_X4_placeOf] at hm
  refine z_iconst (v := (0 : Int32)) C dX4_placeOf_0 (by decide) ?_
  refine z_istore_n (y := (0 : Int32)) (lv' := [(2, .int (0 : Int32)), (0, .ref (ad 6)), (1, .int v1)]) C dX4_placeOf_1 rfl (by decide) rfl rfl ?_
  exact z_sub [1, 2, 0] rfl (w_X4_placeOf_j2 C hQ  _ _ _ _ hm)
set_option maxRecDepth 100000 in
set_option maxHeartbeats 4000000 in
theorem c_X4_placeOf {h : zH} {ad : Nat → Nat} (hI : zI ad zLX.length) (hst : h.1.stackTraces = false) {n : Nat} {v1 : Int32} {s s9 : zS} {r : Int32} (hm : m_X4_placeOf n v1 s = some (r, s9)) : zMR h ad zLX false yX4_placeOf wsX4_placeOf 2 42 [.ref (ad 6), .int v1] s (.inl r) s9 :=
  z_start (cc := cX4_placeOf) (nL := 3) (ret := (some .int)) (own := RX4) (by decide +kernel) rfl rfl hI hst (Nat.le_of_ble_eq_true rfl) (fun G C hQ => w_X4_placeOf_e C hQ _ hm)
