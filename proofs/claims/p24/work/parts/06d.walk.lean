set_option maxRecDepth 100000 in
theorem eX3_add_uX3 : ∀ w ∈ wsX30, w ∈ wsX3_add := by decide +kernel
set_option maxRecDepth 100000 in
theorem eX3_add_f19 : Cond.fieldLink RX3 19 RX3 (TX3 2).2.1 (TX3 2).2.2.1 ∈ wsX3_add := by decide +kernel
set_option maxRecDepth 100000 in
theorem eX3_add_tX7_has : Cond.static yX7_has ∈ wsX3_add := by decide +kernel
set_option maxRecDepth 100000 in
theorem eX3_add_iX7_has : Cond.initialized yX7_has.cls ∈ wsX3_add := by decide +kernel
set_option maxRecDepth 100000 in
theorem eX3_add_n34 : (RX3, 34, yX7_has, "TaxEngine") ∈ zN := by decide +kernel
set_option maxRecDepth 100000 in
theorem eX3_add_f9 : Cond.fieldLink RX3 9 RX3 (TX3 0).2.1 (TX3 0).2.2.1 ∈ wsX3_add := by decide +kernel
set_option maxRecDepth 100000 in
theorem eX3_add_f15 : Cond.fieldLink RX3 15 RX3 (TX3 1).2.1 (TX3 1).2.2.1 ∈ wsX3_add := by decide +kernel
set_option maxRecDepth 100000 in
theorem eX3_add_tX7_put : Cond.static yX7_put ∈ wsX3_add := by decide +kernel
set_option maxRecDepth 100000 in
theorem eX3_add_iX7_put : Cond.initialized yX7_put.cls ∈ wsX3_add := by decide +kernel
set_option maxRecDepth 100000 in
theorem eX3_add_n38 : (RX3, 38, yX7_put, "TaxEngine") ∈ zN := by decide +kernel
set_option maxRecDepth 100000 in
theorem eX3_add_tX7_bit : Cond.static yX7_bit ∈ wsX3_add := by decide +kernel
set_option maxRecDepth 100000 in
theorem eX3_add_iX7_bit : Cond.initialized yX7_bit.cls ∈ wsX3_add := by decide +kernel
set_option maxRecDepth 100000 in
theorem eX3_add_n42 : (RX3, 42, yX7_bit, "TaxEngine") ∈ zN := by decide +kernel
set_option maxRecDepth 100000 in
set_option maxHeartbeats 4000000 in
theorem w_X3_add_e {h : zH} {ad : Nat → Nat} {G : zG} (C : zC h ad zLX 2 G cX3_add RX3 wsX3_add 2 41) {n : Nat} {r : Int32} {s9 : zS} (hQ : zQ h ad zLX G true (.inl r) s9 none) {v1 : Int32} (s : zS) (hm : m_X3_add n v1 s = some (r, s9)) : zV h ad zLX 2 G s 0 [(0, .ref (ad 25)), (1, .int v1)] [] := by
  rw [m_X3_add] at hm
  refine z_aload_n C dX3_add_0 rfl 0 rfl ?_
  refine z_get C kX25 vc3 eX3_add_uX3 2 (by decide) rfl eX3_add_f19 rfl dX3_add_1 ?_
  refine z_iload_n C dX3_add_4 rfl 1 rfl ?_
  obtain ⟨x1, s2, q_s2, hm⟩ := zBd_of hm
  refine z_cSN (vd := false) (host := "TaxEngine") C 2 [.int (s 25 2), .int v1] [] (c_X7_has (zC_I C) (zC_st C)  q_s2) gX3_add_X7_has_n34 eX3_add_n34 eX3_add_tX7_has eX3_add_iX7_has (by decide +kernel) rfl dX3_add_5 rfl ⟨Nat.le_of_ble_eq_true rfl, Nat.le_of_ble_eq_true rfl⟩ rfl (Nat.le_of_ble_eq_true rfl) ?_
  refine z_if_ne (tgt := 46) C dX3_add_8 (by decide) (fun c3 => ?_) (fun c3 => ?_)
  · have hm := zIf hm c3
    exact z_vret0 C hQ (zRt_of hm).1 (zRt_of hm).2 dX3_add_46
  · have hm := zIt hm c3
    refine z_aload_n C dX3_add_11 rfl 0 rfl ?_
    refine z_getr C kX25 vc3 eX3_add_uX3 0 (by decide) rfl eX3_add_f9 rfl dX3_add_12 ?_
    refine z_aload_n C dX3_add_15 rfl 0 rfl ?_
    refine z_get C kX25 vc3 eX3_add_uX3 1 (by decide) rfl eX3_add_f15 rfl dX3_add_16 ?_
    refine z_iload_n C dX3_add_19 rfl 1 rfl ?_
    obtain ⟨x4, s5, q_s5, hm⟩ := zBd_of hm
    refine z_cSN (vd := true) (host := "TaxEngine") C 3 [.ref (ad 26), .int (s2 25 1), .int v1] [] (c_X7_put (zC_I C) (zC_st C) kX26 q_s5) gX3_add_X7_put_n38 eX3_add_n38 eX3_add_tX7_put eX3_add_iX7_put (by decide +kernel) rfl dX3_add_20 rfl ⟨Nat.le_of_ble_eq_true rfl, Nat.le_of_ble_eq_true rfl⟩ rfl (Nat.le_of_ble_eq_true rfl) ?_
    refine z_aload_n C dX3_add_23 rfl 0 rfl ?_
    refine z_dup C dX3_add_24 rfl ?_
    refine z_get C kX25 vc3 eX3_add_uX3 1 (by decide) rfl eX3_add_f15 rfl dX3_add_25 ?_
    refine z_iconst (v := (1 : Int32)) C dX3_add_28 (by decide) ?_
    refine z_iadd C dX3_add_29 ?_
    obtain ⟨s6, e_s6, hm⟩ := zLt_of hm
    refine z_put C kX25 vc3 eX3_add_uX3 tyX3_ok nmX3 1 (by decide) rfl eX3_add_f15 rfl rfl rfl e_s6 dX3_add_30 ?_
    refine z_aload_n C dX3_add_33 rfl 0 rfl ?_
    refine z_dup C dX3_add_34 rfl ?_
    refine z_get C kX25 vc3 eX3_add_uX3 2 (by decide) rfl eX3_add_f19 rfl dX3_add_35 ?_
    refine z_iload_n C dX3_add_38 rfl 1 rfl ?_
    obtain ⟨x7, s8, q_s8, hm⟩ := zBd_of hm
    refine z_cSN (vd := false) (host := "TaxEngine") C 1 [.int v1] [.int (s6 25 2), .ref (ad 25)] (c_X7_bit (zC_I C) (zC_st C)  q_s8) gX3_add_X7_bit_n42 eX3_add_n42 eX3_add_tX7_bit eX3_add_iX7_bit (by decide +kernel) rfl dX3_add_39 rfl ⟨Nat.le_of_ble_eq_true rfl, Nat.le_of_ble_eq_true rfl⟩ rfl (Nat.le_of_ble_eq_true rfl) ?_
    refine z_ior C dX3_add_42 ?_
    obtain ⟨s9, e_s9, hm⟩ := zLt_of hm
    refine z_put C kX25 vc3 eX3_add_uX3 tyX3_ok nmX3 2 (by decide) rfl eX3_add_f19 rfl rfl rfl e_s9 dX3_add_43 ?_
    exact z_vret0 C hQ (zRt_of hm).1 (zRt_of hm).2 dX3_add_46
set_option maxRecDepth 100000 in
set_option maxHeartbeats 4000000 in
theorem c_X3_add {h : zH} {ad : Nat → Nat} (hI : zI ad zLX.length) (hst : h.1.stackTraces = false) {n : Nat} {v1 : Int32} {s s9 : zS} {r : Int32} (hm : m_X3_add n v1 s = some (r, s9)) : zMR h ad zLX true yX3_add wsX3_add 2 41 [.ref (ad 25), .int v1] s (.inl r) s9 :=
  z_start (cc := cX3_add) (nL := 2) (ret := none) (own := RX3) (by decide +kernel) rfl rfl hI hst (Nat.le_of_ble_eq_true rfl) (fun G C hQ => w_X3_add_e C hQ _ hm)
set_option maxRecDepth 100000 in
theorem eX6_of_uX6 : ∀ w ∈ wsX60, w ∈ wsX6_of := by decide +kernel
set_option maxRecDepth 100000 in
theorem eX6_of_f9 : Cond.fieldLink RX6 9 RX6 (TX6 4).2.1 (TX6 4).2.2.1 ∈ wsX6_of := by decide +kernel
set_option maxRecDepth 100000 in
theorem eX6_of_tX7_at : Cond.static yX7_at ∈ wsX6_of := by decide +kernel
set_option maxRecDepth 100000 in
theorem eX6_of_iX7_at : Cond.initialized yX7_at.cls ∈ wsX6_of := by decide +kernel
set_option maxRecDepth 100000 in
theorem eX6_of_n35 : (RX6, 35, yX7_at, "TaxEngine") ∈ zN := by decide +kernel
set_option maxRecDepth 100000 in
set_option maxHeartbeats 4000000 in
theorem w_X6_of_e {h : zH} {ad : Nat → Nat} {G : zG} (C : zC h ad zLX 2 G cX6_of RX6 wsX6_of 1 21) {n : Nat} {r : Int32} {s9 : zS} (hQ : zQ h ad zLX G false (.inl r) s9 (some .int)) {v1 : Int32} (s : zS) (hm : m_X6_of n v1 s = some (r, s9)) : zV h ad zLX 2 G s 0 [(0, .ref (ad 21)), (1, .int v1)] [] := by
  rw [m_X6_of] at hm
  refine z_aload_n C dX6_of_0 rfl 0 rfl ?_
  refine z_getr C kX21 vc6 eX6_of_uX6 4 (by decide) rfl eX6_of_f9 rfl dX6_of_1 ?_
  refine z_iload_n C dX6_of_4 rfl 1 rfl ?_
  obtain ⟨x1, s2, q_s2, hm⟩ := zBd_of hm
  refine z_cSN (vd := false) (host := "TaxEngine") C 2 [.ref (ad 22), .int v1] [] (c_X7_at (zC_I C) (zC_st C) kX22 q_s2) gX6_of_X7_at_n35 eX6_of_n35 eX6_of_tX7_at eX6_of_iX7_at (by decide +kernel) rfl dX6_of_5 rfl ⟨Nat.le_of_ble_eq_true rfl, Nat.le_of_ble_eq_true rfl⟩ rfl (Nat.le_of_ble_eq_true rfl) ?_
  exact z_iret0 C hQ (zRt_of hm).1 (zRt_of hm).2 dX6_of_8
set_option maxRecDepth 100000 in
set_option maxHeartbeats 4000000 in
theorem c_X6_of {h : zH} {ad : Nat → Nat} (hI : zI ad zLX.length) (hst : h.1.stackTraces = false) {n : Nat} {v1 : Int32} {s s9 : zS} {r : Int32} (hm : m_X6_of n v1 s = some (r, s9)) : zMR h ad zLX false yX6_of wsX6_of 1 21 [.ref (ad 21), .int v1] s (.inl r) s9 :=
  z_start (cc := cX6_of) (nL := 2) (ret := (some .int)) (own := RX6) (by decide +kernel) rfl rfl hI hst (Nat.le_of_ble_eq_true rfl) (fun G C hQ => w_X6_of_e C hQ _ hm)
set_option maxRecDepth 100000 in
set_option maxHeartbeats 4000000 in
theorem w_X3_addReasons_e {h : zH} {ad : Nat → Nat} {G : zG} (C : zC h ad zLX 5 G cX3_addReasons RX3 wsX3_addReasons 3 62) {n : Nat} {r : Int32} {s9 : zS} (hQ : zQ h ad zLX G true (.inl r) s9 none) {v1 : Int32} (s : zS) (hm : m_X3_addReasons n v1 s = some (r, s9)) : zV h ad zLX 5 G s 0 [(0, .ref (ad 25)), (1, .int v1), (2, .ref (ad 1)), (3, .ref (ad 21))] [] := by
  rw [m_X3_addReasons] at hm
  refine z_aload_n C dX3_addReasons_0 rfl 2 rfl ?_
  refine z_iload_n C dX3_addReasons_1 rfl 1 rfl ?_
  obtain ⟨x1, s2, q_s2, hm⟩ := zBd_of hm
  refine z_cV (vd := false) (Cn := RX5) (k := 1) C 1 [.int v1] [] (c_X5_first (zC_I C) (zC_st C)  q_s2) gX3_addReasons_X5_first (by decide +kernel) kX1 vc5 rfl rfl dX3_addReasons_2 rfl ⟨Nat.le_of_ble_eq_true rfl, Nat.le_of_ble_eq_true rfl⟩ rfl (Nat.le_of_ble_eq_true rfl) ?_
  refine z_istore (y := x1) (lv' := [(4, .int x1), (0, .ref (ad 25)), (1, .int v1), (2, .ref (ad 1)), (3, .ref (ad 21))]) C dX3_addReasons_5 (by decide) rfl rfl ?_
  refine z_aload_n C dX3_addReasons_7 rfl 3 rfl ?_
  refine z_iload_n C dX3_addReasons_8 rfl 2 rfl ?_
  obtain ⟨x3, s4, q_s4, hm⟩ := zBd_of hm
  refine z_cV (vd := false) (Cn := RX5) (k := 1) C 1 [.int v1] [] (c_X5_kind (zC_I C) (zC_st C)  q_s4) gX3_addReasons_X5_kind (by decide +kernel) kX1 vc5 rfl rfl dX3_addReasons_9 rfl ⟨Nat.le_of_ble_eq_true rfl, Nat.le_of_ble_eq_true rfl⟩ rfl (Nat.le_of_ble_eq_true rfl) ?_
  by_cases c5 : x3 = (1 : Int32)
  · have hm := zIt hm c5
    refine z_tableIn (off := 48) (tgt := 60) C dX3_addReasons_12 (by rw [c5]; decide) (by rw [c5]; decide) (by rw [c5]; decide) (by decide) ?_
    refine z_aload_n C dX3_addReasons_60 rfl 1 rfl ?_
    refine z_iload C dX3_addReasons_61 0 rfl ?_
    obtain ⟨x6, s7, q_s7, hm⟩ := zBd_of hm
    refine z_cV (vd := true) (Cn := RX3) (k := 25) C 1 [.int x1] [] (c_X3_add (zC_I C) (zC_st C)  q_s7) gX3_addReasons_X3_add (by decide +kernel) kX25 vc3 rfl rfl dX3_addReasons_63 rfl ⟨Nat.le_of_ble_eq_true rfl, Nat.le_of_ble_eq_true rfl⟩ rfl (Nat.le_of_ble_eq_true rfl) ?_
    refine z_aload_n C dX3_addReasons_66 rfl 1 rfl ?_
    refine z_aload_n C dX3_addReasons_67 rfl 3 rfl ?_
    refine z_iload_n C dX3_addReasons_68 rfl 2 rfl ?_
    obtain ⟨x8, s9, q_s9, hm⟩ := zBd_of hm
    refine z_cV (vd := false) (Cn := RX5) (k := 1) C 1 [.int v1] [.ref (ad 25)] (c_X5_second (zC_I C) (zC_st C)  q_s9) gX3_addReasons_X5_second (by decide +kernel) kX1 vc5 rfl rfl dX3_addReasons_69 rfl ⟨Nat.le_of_ble_eq_true rfl, Nat.le_of_ble_eq_true rfl⟩ rfl (Nat.le_of_ble_eq_true rfl) ?_
    obtain ⟨x10, s11, q_s11, hm⟩ := zBd_of hm
    refine z_cV (vd := true) (Cn := RX3) (k := 25) C 1 [.int x8] [] (c_X3_add (zC_I C) (zC_st C)  q_s11) gX3_addReasons_X3_add (by decide +kernel) kX25 vc3 rfl rfl dX3_addReasons_72 rfl ⟨Nat.le_of_ble_eq_true rfl, Nat.le_of_ble_eq_true rfl⟩ rfl (Nat.le_of_ble_eq_true rfl) ?_
    refine z_goto (tgt := 118) C dX3_addReasons_75 (by decide) ?_
    exact z_vret0 C hQ (zRt_of hm).1 (zRt_of hm).2 dX3_addReasons_118
  have hm := zIf hm c5
  by_cases c12 : x3 = (2 : Int32)
  · have hm := zIt hm c12
    refine z_tableIn (off := 48) (tgt := 60) C dX3_addReasons_12 (by rw [c12]; decide) (by rw [c12]; decide) (by rw [c12]; decide) (by decide) ?_
    refine z_aload_n C dX3_addReasons_60 rfl 1 rfl ?_
    refine z_iload C dX3_addReasons_61 0 rfl ?_
    obtain ⟨x13, s14, q_s14, hm⟩ := zBd_of hm
    refine z_cV (vd := true) (Cn := RX3) (k := 25) C 1 [.int x1] [] (c_X3_add (zC_I C) (zC_st C)  q_s14) gX3_addReasons_X3_add (by decide +kernel) kX25 vc3 rfl rfl dX3_addReasons_63 rfl ⟨Nat.le_of_ble_eq_true rfl, Nat.le_of_ble_eq_true rfl⟩ rfl (Nat.le_of_ble_eq_true rfl) ?_
    refine z_aload_n C dX3_addReasons_66 rfl 1 rfl ?_
    refine z_aload_n C dX3_addReasons_67 rfl 3 rfl ?_
    refine z_iload_n C dX3_addReasons_68 rfl 2 rfl ?_
    obtain ⟨x15, s16, q_s16, hm⟩ := zBd_of hm
    refine z_cV (vd := false) (Cn := RX5) (k := 1) C 1 [.int v1] [.ref (ad 25)] (c_X5_second (zC_I C) (zC_st C)  q_s16) gX3_addReasons_X5_second (by decide +kernel) kX1 vc5 rfl rfl dX3_addReasons_69 rfl ⟨Nat.le_of_ble_eq_true rfl, Nat.le_of_ble_eq_true rfl⟩ rfl (Nat.le_of_ble_eq_true rfl) ?_
    obtain ⟨x17, s18, q_s18, hm⟩ := zBd_of hm
    refine z_cV (vd := true) (Cn := RX3) (k := 25) C 1 [.int x15] [] (c_X3_add (zC_I C) (zC_st C)  q_s18) gX3_addReasons_X3_add (by decide +kernel) kX25 vc3 rfl rfl dX3_addReasons_72 rfl ⟨Nat.le_of_ble_eq_true rfl, Nat.le_of_ble_eq_true rfl⟩ rfl (Nat.le_of_ble_eq_true rfl) ?_
    refine z_goto (tgt := 118) C dX3_addReasons_75 (by decide) ?_
    exact z_vret0 C hQ (zRt_of hm).1 (zRt_of hm).2 dX3_addReasons_118
  have hm := zIf hm c12
  by_cases c19 : x3 = (3 : Int32)
  · have hm := zIt hm c19
    refine z_tableIn (off := 66) (tgt := 78) C dX3_addReasons_12 (by rw [c19]; decide) (by rw [c19]; decide) (by rw [c19]; decide) (by decide) ?_
    refine z_aload_n C dX3_addReasons_78 rfl 1 rfl ?_
    refine z_iload C dX3_addReasons_79 0 rfl ?_
    obtain ⟨x20, s21, q_s21, hm⟩ := zBd_of hm
    refine z_cV (vd := true) (Cn := RX3) (k := 25) C 1 [.int x1] [] (c_X3_add (zC_I C) (zC_st C)  q_s21) gX3_addReasons_X3_add (by decide +kernel) kX25 vc3 rfl rfl dX3_addReasons_81 rfl ⟨Nat.le_of_ble_eq_true rfl, Nat.le_of_ble_eq_true rfl⟩ rfl (Nat.le_of_ble_eq_true rfl) ?_
    refine z_goto (tgt := 118) C dX3_addReasons_84 (by decide) ?_
    exact z_vret0 C hQ (zRt_of hm).1 (zRt_of hm).2 dX3_addReasons_118
  have hm := zIf hm c19
  by_cases c22 : x3 = (4 : Int32)
  · have hm := zIt hm c22
    refine z_tableIn (off := 75) (tgt := 87) C dX3_addReasons_12 (by rw [c22]; decide) (by rw [c22]; decide) (by rw [c22]; decide) (by decide) ?_
    refine z_aload_n C dX3_addReasons_87 rfl 1 rfl ?_
    refine z_aload_n C dX3_addReasons_88 rfl 4 rfl ?_
    refine z_iload C dX3_addReasons_89 0 rfl ?_
    obtain ⟨x23, s24, q_s24, hm⟩ := zBd_of hm
    refine z_cV (vd := false) (Cn := RX6) (k := 21) C 1 [.int x1] [.ref (ad 25)] (c_X6_of (zC_I C) (zC_st C)  q_s24) gX3_addReasons_X6_of (by decide +kernel) kX21 vc6 rfl rfl dX3_addReasons_91 rfl ⟨Nat.le_of_ble_eq_true rfl, Nat.le_of_ble_eq_true rfl⟩ rfl (Nat.le_of_ble_eq_true rfl) ?_
    refine z_aload_n C dX3_addReasons_94 rfl 4 rfl ?_
    refine z_iload_n C dX3_addReasons_95 rfl 2 rfl ?_
    obtain ⟨x25, s26, q_s26, hm⟩ := zBd_of hm
    refine z_cV (vd := false) (Cn := RX6) (k := 21) C 1 [.int v1] [.int x23, .ref (ad 25)] (c_X6_of (zC_I C) (zC_st C)  q_s26) gX3_addReasons_X6_of (by decide +kernel) kX21 vc6 rfl rfl dX3_addReasons_96 rfl ⟨Nat.le_of_ble_eq_true rfl, Nat.le_of_ble_eq_true rfl⟩ rfl (Nat.le_of_ble_eq_true rfl) ?_
    refine z_icmp_ne (tgt := 107) C dX3_addReasons_99 (by decide) (fun c27 => ?_) (fun c27 => ?_)
    · have hm := zIf hm c27
      refine z_aload_n C dX3_addReasons_107 rfl 3 rfl ?_
      refine z_iload_n C dX3_addReasons_108 rfl 2 rfl ?_
      obtain ⟨x28, s29, q_s29, hm⟩ := zBd_of hm
      refine z_cV (vd := false) (Cn := RX5) (k := 1) C 1 [.int v1] [.ref (ad 25)] (c_X5_second (zC_I C) (zC_st C)  q_s29) gX3_addReasons_X5_second (by decide +kernel) kX1 vc5 rfl rfl dX3_addReasons_109 rfl ⟨Nat.le_of_ble_eq_true rfl, Nat.le_of_ble_eq_true rfl⟩ rfl (Nat.le_of_ble_eq_true rfl) ?_
      obtain ⟨x30, s31, q_s31, hm⟩ := zBd_of hm
      refine z_cV (vd := true) (Cn := RX3) (k := 25) C 1 [.int x28] [] (c_X3_add (zC_I C) (zC_st C)  q_s31) gX3_addReasons_X3_add (by decide +kernel) kX25 vc3 rfl rfl dX3_addReasons_112 rfl ⟨Nat.le_of_ble_eq_true rfl, Nat.le_of_ble_eq_true rfl⟩ rfl (Nat.le_of_ble_eq_true rfl) ?_
      refine z_goto (tgt := 118) C dX3_addReasons_115 (by decide) ?_
      exact z_vret0 C hQ (zRt_of hm).1 (zRt_of hm).2 dX3_addReasons_118
    · have hm := zIt hm c27
      refine z_iload C dX3_addReasons_102 0 rfl ?_
      refine z_goto (tgt := 112) C dX3_addReasons_104 (by decide) ?_
      obtain ⟨x32, s33, q_s33, hm⟩ := zBd_of hm
      refine z_cV (vd := true) (Cn := RX3) (k := 25) C 1 [.int x1] [] (c_X3_add (zC_I C) (zC_st C)  q_s33) gX3_addReasons_X3_add (by decide +kernel) kX25 vc3 rfl rfl dX3_addReasons_112 rfl ⟨Nat.le_of_ble_eq_true rfl, Nat.le_of_ble_eq_true rfl⟩ rfl (Nat.le_of_ble_eq_true rfl) ?_
      refine z_goto (tgt := 118) C dX3_addReasons_115 (by decide) ?_
      exact z_vret0 C hQ (zRt_of hm).1 (zRt_of hm).2 dX3_addReasons_118
  have hm := zIf hm c22
  by_cases c34 : x3 = (5 : Int32)
  · have hm := zIt hm c34
    refine z_tableIn (off := 75) (tgt := 87) C dX3_addReasons_12 (by rw [c34]; decide) (by rw [c34]; decide) (by rw [c34]; decide) (by decide) ?_
    refine z_aload_n C dX3_addReasons_87 rfl 1 rfl ?_
    refine z_aload_n C dX3_addReasons_88 rfl 4 rfl ?_
    refine z_iload C dX3_addReasons_89 0 rfl ?_
    obtain ⟨x35, s36, q_s36, hm⟩ := zBd_of hm
    refine z_cV (vd := false) (Cn := RX6) (k := 21) C 1 [.int x1] [.ref (ad 25)] (c_X6_of (zC_I C) (zC_st C)  q_s36) gX3_addReasons_X6_of (by decide +kernel) kX21 vc6 rfl rfl dX3_addReasons_91 rfl ⟨Nat.le_of_ble_eq_true rfl, Nat.le_of_ble_eq_true rfl⟩ rfl (Nat.le_of_ble_eq_true rfl) ?_
    refine z_aload_n C dX3_addReasons_94 rfl 4 rfl ?_
    refine z_iload_n C dX3_addReasons_95 rfl 2 rfl ?_
    obtain ⟨x37, s38, q_s38, hm⟩ := zBd_of hm
    refine z_cV (vd := false) (Cn := RX6) (k := 21) C 1 [.int v1] [.int x35, .ref (ad 25)] (c_X6_of (zC_I C) (zC_st C)  q_s38) gX3_addReasons_X6_of (by decide +kernel) kX21 vc6 rfl rfl dX3_addReasons_96 rfl ⟨Nat.le_of_ble_eq_true rfl, Nat.le_of_ble_eq_true rfl⟩ rfl (Nat.le_of_ble_eq_true rfl) ?_
    refine z_icmp_ne (tgt := 107) C dX3_addReasons_99 (by decide) (fun c39 => ?_) (fun c39 => ?_)
    · have hm := zIf hm c39
      refine z_aload_n C dX3_addReasons_107 rfl 3 rfl ?_
      refine z_iload_n C dX3_addReasons_108 rfl 2 rfl ?_
      obtain ⟨x40, s41, q_s41, hm⟩ := zBd_of hm
      refine z_cV (vd := false) (Cn := RX5) (k := 1) C 1 [.int v1] [.ref (ad 25)] (c_X5_second (zC_I C) (zC_st C)  q_s41) gX3_addReasons_X5_second (by decide +kernel) kX1 vc5 rfl rfl dX3_addReasons_109 rfl ⟨Nat.le_of_ble_eq_true rfl, Nat.le_of_ble_eq_true rfl⟩ rfl (Nat.le_of_ble_eq_true rfl) ?_
      obtain ⟨x42, s43, q_s43, hm⟩ := zBd_of hm
      refine z_cV (vd := true) (Cn := RX3) (k := 25) C 1 [.int x40] [] (c_X3_add (zC_I C) (zC_st C)  q_s43) gX3_addReasons_X3_add (by decide +kernel) kX25 vc3 rfl rfl dX3_addReasons_112 rfl ⟨Nat.le_of_ble_eq_true rfl, Nat.le_of_ble_eq_true rfl⟩ rfl (Nat.le_of_ble_eq_true rfl) ?_
      refine z_goto (tgt := 118) C dX3_addReasons_115 (by decide) ?_
      exact z_vret0 C hQ (zRt_of hm).1 (zRt_of hm).2 dX3_addReasons_118
    · have hm := zIt hm c39
      refine z_iload C dX3_addReasons_102 0 rfl ?_
      refine z_goto (tgt := 112) C dX3_addReasons_104 (by decide) ?_
      obtain ⟨x44, s45, q_s45, hm⟩ := zBd_of hm
      refine z_cV (vd := true) (Cn := RX3) (k := 25) C 1 [.int x1] [] (c_X3_add (zC_I C) (zC_st C)  q_s45) gX3_addReasons_X3_add (by decide +kernel) kX25 vc3 rfl rfl dX3_addReasons_112 rfl ⟨Nat.le_of_ble_eq_true rfl, Nat.le_of_ble_eq_true rfl⟩ rfl (Nat.le_of_ble_eq_true rfl) ?_
      refine z_goto (tgt := 118) C dX3_addReasons_115 (by decide) ?_
      exact z_vret0 C hQ (zRt_of hm).1 (zRt_of hm).2 dX3_addReasons_118
  have hm := zIf hm c34
  by_cases c46 : x3 = (6 : Int32)
  · have hm := zIt hm c46
    refine z_tableIn (off := 66) (tgt := 78) C dX3_addReasons_12 (by rw [c46]; decide) (by rw [c46]; decide) (by rw [c46]; decide) (by decide) ?_
    refine z_aload_n C dX3_addReasons_78 rfl 1 rfl ?_
    refine z_iload C dX3_addReasons_79 0 rfl ?_
    obtain ⟨x47, s48, q_s48, hm⟩ := zBd_of hm
    refine z_cV (vd := true) (Cn := RX3) (k := 25) C 1 [.int x1] [] (c_X3_add (zC_I C) (zC_st C)  q_s48) gX3_addReasons_X3_add (by decide +kernel) kX25 vc3 rfl rfl dX3_addReasons_81 rfl ⟨Nat.le_of_ble_eq_true rfl, Nat.le_of_ble_eq_true rfl⟩ rfl (Nat.le_of_ble_eq_true rfl) ?_
    refine z_goto (tgt := 118) C dX3_addReasons_84 (by decide) ?_
    exact z_vret0 C hQ (zRt_of hm).1 (zRt_of hm).2 dX3_addReasons_118
  have hm := zIf hm c46
  by_cases c49 : x3 = (7 : Int32)
  · have hm := zIt hm c49
    refine z_tableIn (off := 66) (tgt := 78) C dX3_addReasons_12 (by rw [c49]; decide) (by rw [c49]; decide) (by rw [c49]; decide) (by decide) ?_
    refine z_aload_n C dX3_addReasons_78 rfl 1 rfl ?_
    refine z_iload C dX3_addReasons_79 0 rfl ?_
    obtain ⟨x50, s51, q_s51, hm⟩ := zBd_of hm
    refine z_cV (vd := true) (Cn := RX3) (k := 25) C 1 [.int x1] [] (c_X3_add (zC_I C) (zC_st C)  q_s51) gX3_addReasons_X3_add (by decide +kernel) kX25 vc3 rfl rfl dX3_addReasons_81 rfl ⟨Nat.le_of_ble_eq_true rfl, Nat.le_of_ble_eq_true rfl⟩ rfl (Nat.le_of_ble_eq_true rfl) ?_
    refine z_goto (tgt := 118) C dX3_addReasons_84 (by decide) ?_
    exact z_vret0 C hQ (zRt_of hm).1 (zRt_of hm).2 dX3_addReasons_118
  have hm := zIf hm c49
  by_cases c52 : x3 = (8 : Int32)
  · have hm := zIt hm c52
    refine z_tableIn (off := 75) (tgt := 87) C dX3_addReasons_12 (by rw [c52]; decide) (by rw [c52]; decide) (by rw [c52]; decide) (by decide) ?_
    refine z_aload_n C dX3_addReasons_87 rfl 1 rfl ?_
    refine z_aload_n C dX3_addReasons_88 rfl 4 rfl ?_
    refine z_iload C dX3_addReasons_89 0 rfl ?_
    obtain ⟨x53, s54, q_s54, hm⟩ := zBd_of hm
    refine z_cV (vd := false) (Cn := RX6) (k := 21) C 1 [.int x1] [.ref (ad 25)] (c_X6_of (zC_I C) (zC_st C)  q_s54) gX3_addReasons_X6_of (by decide +kernel) kX21 vc6 rfl rfl dX3_addReasons_91 rfl ⟨Nat.le_of_ble_eq_true rfl, Nat.le_of_ble_eq_true rfl⟩ rfl (Nat.le_of_ble_eq_true rfl) ?_
    refine z_aload_n C dX3_addReasons_94 rfl 4 rfl ?_
    refine z_iload_n C dX3_addReasons_95 rfl 2 rfl ?_
    obtain ⟨x55, s56, q_s56, hm⟩ := zBd_of hm
    refine z_cV (vd := false) (Cn := RX6) (k := 21) C 1 [.int v1] [.int x53, .ref (ad 25)] (c_X6_of (zC_I C) (zC_st C)  q_s56) gX3_addReasons_X6_of (by decide +kernel) kX21 vc6 rfl rfl dX3_addReasons_96 rfl ⟨Nat.le_of_ble_eq_true rfl, Nat.le_of_ble_eq_true rfl⟩ rfl (Nat.le_of_ble_eq_true rfl) ?_
    refine z_icmp_ne (tgt := 107) C dX3_addReasons_99 (by decide) (fun c57 => ?_) (fun c57 => ?_)
    · have hm := zIf hm c57
      refine z_aload_n C dX3_addReasons_107 rfl 3 rfl ?_
      refine z_iload_n C dX3_addReasons_108 rfl 2 rfl ?_
      obtain ⟨x58, s59, q_s59, hm⟩ := zBd_of hm
      refine z_cV (vd := false) (Cn := RX5) (k := 1) C 1 [.int v1] [.ref (ad 25)] (c_X5_second (zC_I C) (zC_st C)  q_s59) gX3_addReasons_X5_second (by decide +kernel) kX1 vc5 rfl rfl dX3_addReasons_109 rfl ⟨Nat.le_of_ble_eq_true rfl, Nat.le_of_ble_eq_true rfl⟩ rfl (Nat.le_of_ble_eq_true rfl) ?_
      obtain ⟨x60, s61, q_s61, hm⟩ := zBd_of hm
      refine z_cV (vd := true) (Cn := RX3) (k := 25) C 1 [.int x58] [] (c_X3_add (zC_I C) (zC_st C)  q_s61) gX3_addReasons_X3_add (by decide +kernel) kX25 vc3 rfl rfl dX3_addReasons_112 rfl ⟨Nat.le_of_ble_eq_true rfl, Nat.le_of_ble_eq_true rfl⟩ rfl (Nat.le_of_ble_eq_true rfl) ?_
      refine z_goto (tgt := 118) C dX3_addReasons_115 (by decide) ?_
      exact z_vret0 C hQ (zRt_of hm).1 (zRt_of hm).2 dX3_addReasons_118
    · have hm := zIt hm c57
      refine z_iload C dX3_addReasons_102 0 rfl ?_
      refine z_goto (tgt := 112) C dX3_addReasons_104 (by decide) ?_
      obtain ⟨x62, s63, q_s63, hm⟩ := zBd_of hm
      refine z_cV (vd := true) (Cn := RX3) (k := 25) C 1 [.int x1] [] (c_X3_add (zC_I C) (zC_st C)  q_s63) gX3_addReasons_X3_add (by decide +kernel) kX25 vc3 rfl rfl dX3_addReasons_112 rfl ⟨Nat.le_of_ble_eq_true rfl, Nat.le_of_ble_eq_true rfl⟩ rfl (Nat.le_of_ble_eq_true rfl) ?_
      refine z_goto (tgt := 118) C dX3_addReasons_115 (by decide) ?_
      exact z_vret0 C hQ (zRt_of hm).1 (zRt_of hm).2 dX3_addReasons_118
  have hm := zIf hm c52
  have t_c5 := z_ne (n := 1) c5 (by decide)
  have t_c12 := z_ne (n := 2) c12 (by decide)
  have t_c19 := z_ne (n := 3) c19 (by decide)
  have t_c22 := z_ne (n := 4) c22 (by decide)
  have t_c34 := z_ne (n := 5) c34 (by decide)
  have t_c46 := z_ne (n := 6) c46 (by decide)
  have t_c49 := z_ne (n := 7) c49 (by decide)
  have t_c52 := z_ne (n := 8) c52 (by decide)
  refine z_tableOut (tgt := 118) C dX3_addReasons_12 (by omega) (by decide) ?_
  exact z_vret0 C hQ (zRt_of hm).1 (zRt_of hm).2 dX3_addReasons_118
set_option maxRecDepth 100000 in
set_option maxHeartbeats 4000000 in
theorem c_X3_addReasons {h : zH} {ad : Nat → Nat} (hI : zI ad zLX.length) (hst : h.1.stackTraces = false) {n : Nat} {v1 : Int32} {s s9 : zS} {r : Int32} (hm : m_X3_addReasons n v1 s = some (r, s9)) : zMR h ad zLX true yX3_addReasons wsX3_addReasons 3 62 [.ref (ad 25), .int v1, .ref (ad 1), .ref (ad 21)] s (.inl r) s9 :=
  z_start (cc := cX3_addReasons) (nL := 5) (ret := none) (own := RX3) (by decide +kernel) rfl rfl hI hst (Nat.le_of_ble_eq_true rfl) (fun G C hQ => w_X3_addReasons_e C hQ _ hm)
set_option maxRecDepth 100000 in
theorem eX3_explain_uX3 : ∀ w ∈ wsX30, w ∈ wsX3_explain := by decide +kernel
set_option maxRecDepth 100000 in
theorem eX3_explain_f15 : Cond.fieldLink RX3 15 RX3 (TX3 1).2.1 (TX3 1).2.2.1 ∈ wsX3_explain := by decide +kernel
set_option maxRecDepth 100000 in
theorem eX3_explain_f9 : Cond.fieldLink RX3 9 RX3 (TX3 0).2.1 (TX3 0).2.2.1 ∈ wsX3_explain := by decide +kernel
set_option maxRecDepth 100000 in
theorem eX3_explain_tX7_at : Cond.static yX7_at ∈ wsX3_explain := by decide +kernel
set_option maxRecDepth 100000 in
theorem eX3_explain_iX7_at : Cond.initialized yX7_at.cls ∈ wsX3_explain := by decide +kernel
set_option maxRecDepth 100000 in
theorem eX3_explain_n26 : (RX3, 26, yX7_at, "TaxEngine") ∈ zN := by decide +kernel
set_option maxRecDepth 100000 in
theorem eX3_explain_f19 : Cond.fieldLink RX3 19 RX3 (TX3 2).2.1 (TX3 2).2.2.1 ∈ wsX3_explain := by decide +kernel
set_option maxRecDepth 100000 in
set_option maxHeartbeats 4000000 in
theorem w_X3_explain_j18 {h : zH} {ad : Nat → Nat} {G : zG} (C : zC h ad zLX 5 G cX3_explain RX3 wsX3_explain 4 86) {n : Nat} {r : Int32} {s9 : zS} (hQ : zQ h ad zLX G true (.inl r) s9 none) : ∀ (f : Nat) (v4 : Int32) (s : zS), m_X3_explain_j18 n f v4 s = some (r, s9) → zV h ad zLX 5 G s 18 [(0, .ref (ad 25)), (2, .ref (ad 1)), (3, .ref (ad 21)), (4, .int v4)] [] := by
  intro f
  induction f with
  | zero => intro v4 s hm; simp [m_X3_explain_j18] at hm
  | succ f ih =>
    intro v4 s hm
    rw [m_X3_explain_j18] at hm
    refine z_iload C dX3_explain_18 3 rfl ?_
    refine z_bipush (v := (16 : Int32)) C dX3_explain_20 (by decide) ?_
    refine z_icmp_ge (tgt := 55) C dX3_explain_22 (by decide) (fun c1 => ?_) (fun c1 => ?_)
    · have hm := zIt hm c1
      exact z_vret0 C hQ (zRt_of hm).1 (zRt_of hm).2 dX3_explain_55
    · have hm := zIf hm c1
      refine z_iload C dX3_explain_25 3 rfl ?_
      refine z_aload_n C dX3_explain_27 rfl 0 rfl ?_
      refine z_get C kX25 vc3 eX3_explain_uX3 1 (by decide) rfl eX3_explain_f15 rfl dX3_explain_28 ?_
      refine z_icmp_ge (tgt := 55) C dX3_explain_31 (by decide) (fun c2 => ?_) (fun c2 => ?_)
      · have hm := zIt hm c2
        exact z_vret0 C hQ (zRt_of hm).1 (zRt_of hm).2 dX3_explain_55
      · have hm := zIf hm c2
        refine z_aload_n C dX3_explain_34 rfl 0 rfl ?_
        refine z_aload_n C dX3_explain_35 rfl 0 rfl ?_
        refine z_getr C kX25 vc3 eX3_explain_uX3 0 (by decide) rfl eX3_explain_f9 rfl dX3_explain_36 ?_
        refine z_iload C dX3_explain_39 3 rfl ?_
        obtain ⟨x3, s4, q_s4, hm⟩ := zBd_of hm
        refine z_cSN (vd := false) (host := "TaxEngine") C 2 [.ref (ad 26), .int v4] [.ref (ad 25)] (c_X7_at (zC_I C) (zC_st C) kX26 q_s4) gX3_explain_X7_at_n26 eX3_explain_n26 eX3_explain_tX7_at eX3_explain_iX7_at (by decide +kernel) rfl dX3_explain_41 rfl ⟨Nat.le_of_ble_eq_true rfl, Nat.le_of_ble_eq_true rfl⟩ rfl (Nat.le_of_ble_eq_true rfl) ?_
        refine z_aload_n C dX3_explain_44 rfl 1 rfl ?_
        refine z_aload_n C dX3_explain_45 rfl 2 rfl ?_
        obtain ⟨x5, s6, q_s6, hm⟩ := zBd_of hm
        refine z_cV (vd := true) (Cn := RX3) (k := 25) C 3 [.int x3, .ref (ad 1), .ref (ad 21)] [] (c_X3_addReasons (zC_I C) (zC_st C)  q_s6) gX3_explain_X3_addReasons (by decide +kernel) kX25 vc3 rfl rfl dX3_explain_46 rfl ⟨Nat.le_of_ble_eq_true rfl, Nat.le_of_ble_eq_true rfl⟩ rfl (Nat.le_of_ble_eq_true rfl) ?_
        obtain ⟨x7, e_x7, hm⟩ := zLt_of hm
        refine z_iinc (j := 3) (v := x7) (d := (1 : Int32)) (lv' := [(4, .int x7), (0, .ref (ad 25)), (2, .ref (ad 1)), (3, .ref (ad 21))]) C dX3_explain_49 rfl (by decide) e_x7 (by decide) rfl ?_
        refine z_goto (tgt := 18) C dX3_explain_52 (by decide) ?_
        exact z_sub [1, 2, 3, 0] rfl (ih _ _ hm)
set_option maxRecDepth 100000 in
set_option maxHeartbeats 4000000 in
theorem w_X3_explain_e {h : zH} {ad : Nat → Nat} {G : zG} (C : zC h ad zLX 5 G cX3_explain RX3 wsX3_explain 4 86) {n : Nat} {r : Int32} {s9 : zS} (hQ : zQ h ad zLX G true (.inl r) s9 none) {v1 : Int32} (s : zS) (hm : m_X3_explain n v1 s = some (r, s9)) : zV h ad zLX 5 G s 0 [(0, .ref (ad 25)), (1, .int v1), (2, .ref (ad 1)), (3, .ref (ad 21))] [] := by
  rw [m_X3_explain] at hm
  refine z_aload_n C dX3_explain_0 rfl 0 rfl ?_
  refine z_iconst (v := (0 : Int32)) C dX3_explain_1 (by decide) ?_
  obtain ⟨s8, e_s8, hm⟩ := zLt_of hm
  refine z_put C kX25 vc3 eX3_explain_uX3 tyX3_ok nmX3 1 (by decide) rfl eX3_explain_f15 rfl rfl rfl e_s8 dX3_explain_2 ?_
  refine z_aload_n C dX3_explain_5 rfl 0 rfl ?_
  refine z_iconst (v := (0 : Int32)) C dX3_explain_6 (by decide) ?_
  obtain ⟨s9, e_s9, hm⟩ := zLt_of hm
  refine z_put C kX25 vc3 eX3_explain_uX3 tyX3_ok nmX3 2 (by decide) rfl eX3_explain_f19 rfl rfl rfl e_s9 dX3_explain_7 ?_
  refine z_aload_n C dX3_explain_10 rfl 0 rfl ?_
  refine z_iload_n C dX3_explain_11 rfl 1 rfl ?_
  obtain ⟨x10, s11, q_s11, hm⟩ := zBd_of hm
  refine z_cV (vd := true) (Cn := RX3) (k := 25) C 1 [.int v1] [] (c_X3_add (zC_I C) (zC_st C)  q_s11) gX3_explain_X3_add (by decide +kernel) kX25 vc3 rfl rfl dX3_explain_12 rfl ⟨Nat.le_of_ble_eq_true rfl, Nat.le_of_ble_eq_true rfl⟩ rfl (Nat.le_of_ble_eq_true rfl) ?_
  refine z_iconst (v := (0 : Int32)) C dX3_explain_15 (by decide) ?_
  refine z_istore (y := (0 : Int32)) (lv' := [(4, .int (0 : Int32)), (0, .ref (ad 25)), (1, .int v1), (2, .ref (ad 1)), (3, .ref (ad 21))]) C dX3_explain_16 (by decide) rfl rfl ?_
  exact z_sub [1, 3, 4, 0] rfl (w_X3_explain_j18 C hQ  _ _ _ hm)
set_option maxRecDepth 100000 in
set_option maxHeartbeats 4000000 in
theorem c_X3_explain {h : zH} {ad : Nat → Nat} (hI : zI ad zLX.length) (hst : h.1.stackTraces = false) {n : Nat} {v1 : Int32} {s s9 : zS} {r : Int32} (hm : m_X3_explain n v1 s = some (r, s9)) : zMR h ad zLX true yX3_explain wsX3_explain 4 86 [.ref (ad 25), .int v1, .ref (ad 1), .ref (ad 21)] s (.inl r) s9 :=
  z_start (cc := cX3_explain) (nL := 5) (ret := none) (own := RX3) (by decide +kernel) rfl rfl hI hst (Nat.le_of_ble_eq_true rfl) (fun G C hQ => w_X3_explain_e C hQ _ hm)
set_option maxRecDepth 100000 in
theorem eX3_lineAt_uX3 : ∀ w ∈ wsX30, w ∈ wsX3_lineAt := by decide +kernel
set_option maxRecDepth 100000 in
theorem eX3_lineAt_f15 : Cond.fieldLink RX3 15 RX3 (TX3 1).2.1 (TX3 1).2.2.1 ∈ wsX3_lineAt := by decide +kernel
set_option maxRecDepth 100000 in
theorem eX3_lineAt_f9 : Cond.fieldLink RX3 9 RX3 (TX3 0).2.1 (TX3 0).2.2.1 ∈ wsX3_lineAt := by decide +kernel
set_option maxRecDepth 100000 in
theorem eX3_lineAt_tX7_at : Cond.static yX7_at ∈ wsX3_lineAt := by decide +kernel
set_option maxRecDepth 100000 in
theorem eX3_lineAt_iX7_at : Cond.initialized yX7_at.cls ∈ wsX3_lineAt := by decide +kernel
set_option maxRecDepth 100000 in
theorem eX3_lineAt_n26 : (RX3, 26, yX7_at, "TaxEngine") ∈ zN := by decide +kernel
set_option maxRecDepth 100000 in
set_option maxHeartbeats 4000000 in
theorem w_X3_lineAt_e {h : zH} {ad : Nat → Nat} {G : zG} (C : zC h ad zLX 2 G cX3_lineAt RX3 wsX3_lineAt 1 21) {n : Nat} {r : Int32} {s9 : zS} (hQ : zQ h ad zLX G false (.inl r) s9 (some .int)) {v1 : Int32} (s : zS) (hm : m_X3_lineAt n v1 s = some (r, s9)) : zV h ad zLX 2 G s 0 [(0, .ref (ad 25)), (1, .int v1)] [] := by
  rw [m_X3_lineAt] at hm
  refine z_iload_n C dX3_lineAt_0 rfl 1 rfl ?_
  refine z_if_lt (tgt := 23) C dX3_lineAt_1 (by decide) (fun c1 => ?_) (fun c1 => ?_)
  · have hm := zIt hm c1
    refine z_iconst (v := (-1 : Int32)) C dX3_lineAt_23 (by decide) ?_
    exact z_iret0 C hQ (zRt_of hm).1 (zRt_of hm).2 dX3_lineAt_24
  · have hm := zIf hm c1
    refine z_iload_n C dX3_lineAt_4 rfl 1 rfl ?_
    refine z_aload_n C dX3_lineAt_5 rfl 0 rfl ?_
    refine z_get C kX25 vc3 eX3_lineAt_uX3 1 (by decide) rfl eX3_lineAt_f15 rfl dX3_lineAt_6 ?_
    refine z_icmp_ge (tgt := 23) C dX3_lineAt_9 (by decide) (fun c2 => ?_) (fun c2 => ?_)
    · have hm := zIt hm c2
      refine z_iconst (v := (-1 : Int32)) C dX3_lineAt_23 (by decide) ?_
      exact z_iret0 C hQ (zRt_of hm).1 (zRt_of hm).2 dX3_lineAt_24
    · have hm := zIf hm c2
      refine z_aload_n C dX3_lineAt_12 rfl 0 rfl ?_
      refine z_getr C kX25 vc3 eX3_lineAt_uX3 0 (by decide) rfl eX3_lineAt_f9 rfl dX3_lineAt_13 ?_
      refine z_iload_n C dX3_lineAt_16 rfl 1 rfl ?_
      obtain ⟨x3, s4, q_s4, hm⟩ := zBd_of hm
      refine z_cSN (vd := false) (host := "TaxEngine") C 2 [.ref (ad 26), .int v1] [] (c_X7_at (zC_I C) (zC_st C) kX26 q_s4) gX3_lineAt_X7_at_n26 eX3_lineAt_n26 eX3_lineAt_tX7_at eX3_lineAt_iX7_at (by decide +kernel) rfl dX3_lineAt_17 rfl ⟨Nat.le_of_ble_eq_true rfl, Nat.le_of_ble_eq_true rfl⟩ rfl (Nat.le_of_ble_eq_true rfl) ?_
      refine z_goto (tgt := 24) C dX3_lineAt_20 (by decide) ?_
      exact z_iret0 C hQ (zRt_of hm).1 (zRt_of hm).2 dX3_lineAt_24
set_option maxRecDepth 100000 in
set_option maxHeartbeats 4000000 in
theorem c_X3_lineAt {h : zH} {ad : Nat → Nat} (hI : zI ad zLX.length) (hst : h.1.stackTraces = false) {n : Nat} {v1 : Int32} {s s9 : zS} {r : Int32} (hm : m_X3_lineAt n v1 s = some (r, s9)) : zMR h ad zLX false yX3_lineAt wsX3_lineAt 1 21 [.ref (ad 25), .int v1] s (.inl r) s9 :=
  z_start (cc := cX3_lineAt) (nL := 2) (ret := (some .int)) (own := RX3) (by decide +kernel) rfl rfl hI hst (Nat.le_of_ble_eq_true rfl) (fun G C hQ => w_X3_lineAt_e C hQ _ hm)
set_option maxRecDepth 100000 in
theorem eJ6_bitCount_0f7a4_c265 : Cond.constant RJ6 265 (1431655765 : Int32) ∈ wsJ6_bitCount_0f7a4 := by decide +kernel
set_option maxRecDepth 100000 in
theorem eJ6_bitCount_0f7a4_c266 : Cond.constant RJ6 266 (858993459 : Int32) ∈ wsJ6_bitCount_0f7a4 := by decide +kernel
set_option maxRecDepth 100000 in
theorem eJ6_bitCount_0f7a4_c267 : Cond.constant RJ6 267 (252645135 : Int32) ∈ wsJ6_bitCount_0f7a4 := by decide +kernel
set_option maxRecDepth 100000 in
set_option maxHeartbeats 4000000 in
theorem w_J6_bitCount_0f7a4_e {h : zH} {ad : Nat → Nat} {G : zG} (C : zC h ad zLX 1 G cJ6_bitCount_0f7a4 RJ6 wsJ6_bitCount_0f7a4 0 0) {n : Nat} {r : Int32} {s9 : zS} (hQ : zQ h ad zLX G false (.inl r) s9 (some .int)) {v0 : Int32} (s : zS) (hm : m_J6_bitCount_0f7a4 n v0 s = some (r, s9)) : zV h ad zLX 1 G s 0 [(0, .int v0)] [] := by
  rw [m_J6_bitCount_0f7a4] at hm
  refine z_iload_n C dJ6_bitCount_0f7a4_0 rfl 0 rfl ?_
  refine z_iload_n C dJ6_bitCount_0f7a4_1 rfl 0 rfl ?_
  refine z_iconst (v := (1 : Int32)) C dJ6_bitCount_0f7a4_2 (by decide) ?_
  refine z_iushr C dJ6_bitCount_0f7a4_3 ?_
  refine z_ldcw (v := (1431655765 : Int32)) C eJ6_bitCount_0f7a4_c265 dJ6_bitCount_0f7a4_4 ?_
  refine z_iand C dJ6_bitCount_0f7a4_7 ?_
  refine z_isub C dJ6_bitCount_0f7a4_8 ?_
  obtain ⟨x1, e_x1, hm⟩ := zLt_of hm
  refine z_istore_n (y := x1) (lv' := [(0, .int x1)]) C dJ6_bitCount_0f7a4_9 rfl (by decide) e_x1 rfl ?_
  refine z_iload_n C dJ6_bitCount_0f7a4_10 rfl 0 rfl ?_
  refine z_ldcw (v := (858993459 : Int32)) C eJ6_bitCount_0f7a4_c266 dJ6_bitCount_0f7a4_11 ?_
  refine z_iand C dJ6_bitCount_0f7a4_14 ?_
  refine z_iload_n C dJ6_bitCount_0f7a4_15 rfl 0 rfl ?_
  refine z_iconst (v := (2 : Int32)) C dJ6_bitCount_0f7a4_16 (by decide) ?_
  refine z_iushr C dJ6_bitCount_0f7a4_17 ?_
  refine z_ldcw (v := (858993459 : Int32)) C eJ6_bitCount_0f7a4_c266 dJ6_bitCount_0f7a4_18 ?_
  refine z_iand C dJ6_bitCount_0f7a4_21 ?_
  refine z_iadd C dJ6_bitCount_0f7a4_22 ?_
  obtain ⟨x2, e_x2, hm⟩ := zLt_of hm
  refine z_istore_n (y := x2) (lv' := [(0, .int x2)]) C dJ6_bitCount_0f7a4_23 rfl (by decide) e_x2 rfl ?_
  refine z_iload_n C dJ6_bitCount_0f7a4_24 rfl 0 rfl ?_
  refine z_iload_n C dJ6_bitCount_0f7a4_25 rfl 0 rfl ?_
  refine z_iconst (v := (4 : Int32)) C dJ6_bitCount_0f7a4_26 (by decide) ?_
  refine z_iushr C dJ6_bitCount_0f7a4_27 ?_
  refine z_iadd C dJ6_bitCount_0f7a4_28 ?_
  refine z_ldcw (v := (252645135 : Int32)) C eJ6_bitCount_0f7a4_c267 dJ6_bitCount_0f7a4_29 ?_
  refine z_iand C dJ6_bitCount_0f7a4_32 ?_
  obtain ⟨x3, e_x3, hm⟩ := zLt_of hm
  refine z_istore_n (y := x3) (lv' := [(0, .int x3)]) C dJ6_bitCount_0f7a4_33 rfl (by decide) e_x3 rfl ?_
  refine z_iload_n C dJ6_bitCount_0f7a4_34 rfl 0 rfl ?_
  refine z_iload_n C dJ6_bitCount_0f7a4_35 rfl 0 rfl ?_
  refine z_bipush (v := (8 : Int32)) C dJ6_bitCount_0f7a4_36 (by decide) ?_
  refine z_iushr C dJ6_bitCount_0f7a4_38 ?_
  refine z_iadd C dJ6_bitCount_0f7a4_39 ?_
  obtain ⟨x4, e_x4, hm⟩ := zLt_of hm
  refine z_istore_n (y := x4) (lv' := [(0, .int x4)]) C dJ6_bitCount_0f7a4_40 rfl (by decide) e_x4 rfl ?_
  refine z_iload_n C dJ6_bitCount_0f7a4_41 rfl 0 rfl ?_
  refine z_iload_n C dJ6_bitCount_0f7a4_42 rfl 0 rfl ?_
  refine z_bipush (v := (16 : Int32)) C dJ6_bitCount_0f7a4_43 (by decide) ?_
  refine z_iushr C dJ6_bitCount_0f7a4_45 ?_
  refine z_iadd C dJ6_bitCount_0f7a4_46 ?_
  obtain ⟨x5, e_x5, hm⟩ := zLt_of hm
  refine z_istore_n (y := x5) (lv' := [(0, .int x5)]) C dJ6_bitCount_0f7a4_47 rfl (by decide) e_x5 rfl ?_
  refine z_iload_n C dJ6_bitCount_0f7a4_48 rfl 0 rfl ?_
  refine z_bipush (v := (63 : Int32)) C dJ6_bitCount_0f7a4_49 (by decide) ?_
  refine z_iand C dJ6_bitCount_0f7a4_51 ?_
  exact z_iret0 C hQ (zRt_of hm).1 (zRt_of hm).2 dJ6_bitCount_0f7a4_52
set_option maxRecDepth 100000 in
set_option maxHeartbeats 4000000 in
theorem c_J6_bitCount_0f7a4 {h : zH} {ad : Nat → Nat} (hI : zI ad zLX.length) (hst : h.1.stackTraces = false) {n : Nat} {v0 : Int32} {s s9 : zS} {r : Int32} (hm : m_J6_bitCount_0f7a4 n v0 s = some (r, s9)) : zMR h ad zLX false yJ6_bitCount_0f7a4 wsJ6_bitCount_0f7a4 0 0 [.int v0] s (.inl r) s9 :=
  z_start (cc := cJ6_bitCount_0f7a4) (nL := 1) (ret := (some .int)) (own := RJ6) (by decide +kernel) rfl rfl hI hst (Nat.le_of_ble_eq_true rfl) (fun G C hQ => w_J6_bitCount_0f7a4_e C hQ _ hm)
set_option maxRecDepth 100000 in
theorem eX6_plain_uX6 : ∀ w ∈ wsX60, w ∈ wsX6_plain := by decide +kernel
set_option maxRecDepth 100000 in
theorem eX6_plain_f19 : Cond.fieldLink RX6 19 RX6 (TX6 0).2.1 (TX6 0).2.2.1 ∈ wsX6_plain := by decide +kernel
set_option maxRecDepth 100000 in
theorem eX6_plain_c85 : Cond.constant RX6 85 (1000000000 : Int32) ∈ wsX6_plain := by decide +kernel
set_option maxRecDepth 100000 in
theorem eX6_plain_l86 : Cond.methodLink RX6 86 Lib.Math.min.name ∈ wsX6_plain := by decide +kernel
set_option maxRecDepth 100000 in
theorem eX6_plain_stmin : Cond.static Lib.Math.min.name ∈ wsX6_plain := by decide +kernel
set_option maxRecDepth 100000 in
theorem eX6_plain_im : Cond.initialized "java/lang/Math" ∈ wsX6_plain := by decide +kernel
set_option maxRecDepth 100000 in
theorem eX6_plain_cmmin : Cond.code Lib.Math.min.name Lib.Math.min.code 2 (some .int) ∈ wsX6_plain := by decide +kernel
set_option maxRecDepth 100000 in
theorem eX6_plain_l92 : Cond.methodLink RX6 92 Lib.Math.max.name ∈ wsX6_plain := by decide +kernel
set_option maxRecDepth 100000 in
theorem eX6_plain_stmax : Cond.static Lib.Math.max.name ∈ wsX6_plain := by decide +kernel
set_option maxRecDepth 100000 in
theorem eX6_plain_cmmax : Cond.code Lib.Math.max.name Lib.Math.max.code 2 (some .int) ∈ wsX6_plain := by decide +kernel
set_option maxRecDepth 100000 in
theorem eX6_plain_tX7_thousandths : Cond.static yX7_thousandths ∈ wsX6_plain := by decide +kernel
set_option maxRecDepth 100000 in
theorem eX6_plain_iX7_thousandths : Cond.initialized yX7_thousandths.cls ∈ wsX6_plain := by decide +kernel
set_option maxRecDepth 100000 in
theorem eX6_plain_n95 : (RX6, 95, yX7_thousandths, "TaxEngine") ∈ zN := by decide +kernel
set_option maxRecDepth 100000 in
theorem eX6_plain_f27 : Cond.fieldLink RX6 27 RX6 (TX6 2).2.1 (TX6 2).2.2.1 ∈ wsX6_plain := by decide +kernel
set_option maxRecDepth 100000 in
theorem eX6_plain_f31 : Cond.fieldLink RX6 31 RX6 (TX6 3).2.1 (TX6 3).2.2.1 ∈ wsX6_plain := by decide +kernel
set_option maxRecDepth 100000 in
theorem eX6_plain_f15 : Cond.fieldLink RX6 15 RX6 (TX6 5).2.1 (TX6 5).2.2.1 ∈ wsX6_plain := by decide +kernel
set_option maxRecDepth 100000 in
set_option maxHeartbeats 4000000 in
theorem w_X6_plain_e {h : zH} {ad : Nat → Nat} {G : zG} (C : zC h ad zLX 4 G cX6_plain RX6 wsX6_plain 3 64) {n : Nat} {r : Int32} {s9 : zS} (hQ : zQ h ad zLX G false (.inl r) s9 (some .int)) {v1 : Int32} (s : zS) (hm : m_X6_plain n v1 s = some (r, s9)) : zV h ad zLX 4 G s 0 [(0, .ref (ad 21)), (1, .int v1)] [] := by
  rw [m_X6_plain] at hm
  refine z_aload_n C dX6_plain_0 rfl 0 rfl ?_
  refine z_aload_n C dX6_plain_1 rfl 0 rfl ?_
  refine z_getr C kX21 vc6 eX6_plain_uX6 0 (by decide) rfl eX6_plain_f19 rfl dX6_plain_2 ?_
  refine z_iload_n C dX6_plain_5 rfl 1 rfl ?_
  obtain ⟨x1, s2, q_s2, hm⟩ := zBd_of hm
  refine z_cV (vd := false) (Cn := RX5) (k := 1) C 1 [.int v1] [.ref (ad 21)] (c_X5_first (zC_I C) (zC_st C)  q_s2) gX6_plain_X5_first (by decide +kernel) kX1 vc5 rfl rfl dX6_plain_6 rfl ⟨Nat.le_of_ble_eq_true rfl, Nat.le_of_ble_eq_true rfl⟩ rfl (Nat.le_of_ble_eq_true rfl) ?_
  obtain ⟨x3, s4, q_s4, hm⟩ := zBd_of hm
  refine z_cV (vd := false) (Cn := RX6) (k := 21) C 1 [.int x1] [] (c_X6_of (zC_I C) (zC_st C)  q_s4) gX6_plain_X6_of (by decide +kernel) kX21 vc6 rfl rfl dX6_plain_9 rfl ⟨Nat.le_of_ble_eq_true rfl, Nat.le_of_ble_eq_true rfl⟩ rfl (Nat.le_of_ble_eq_true rfl) ?_
  refine z_istore_n (y := x3) (lv' := [(2, .int x3), (0, .ref (ad 21)), (1, .int v1)]) C dX6_plain_12 rfl (by decide) rfl rfl ?_
  refine z_aload_n C dX6_plain_13 rfl 1 rfl ?_
  refine z_getr C kX21 vc6 eX6_plain_uX6 0 (by decide) rfl eX6_plain_f19 rfl dX6_plain_14 ?_
  refine z_iload_n C dX6_plain_17 rfl 2 rfl ?_
  obtain ⟨x5, s6, q_s6, hm⟩ := zBd_of hm
  refine z_cV (vd := false) (Cn := RX5) (k := 1) C 1 [.int v1] [] (c_X5_second (zC_I C) (zC_st C)  q_s6) gX6_plain_X5_second (by decide +kernel) kX1 vc5 rfl rfl dX6_plain_18 rfl ⟨Nat.le_of_ble_eq_true rfl, Nat.le_of_ble_eq_true rfl⟩ rfl (Nat.le_of_ble_eq_true rfl) ?_
  refine z_istore_n (y := x5) (lv' := [(3, .int x5), (2, .int x3), (0, .ref (ad 21)), (1, .int v1)]) C dX6_plain_21 rfl (by decide) rfl rfl ?_
  refine z_aload_n C dX6_plain_22 rfl 2 rfl ?_
  refine z_getr C kX21 vc6 eX6_plain_uX6 0 (by decide) rfl eX6_plain_f19 rfl dX6_plain_23 ?_
  refine z_iload_n C dX6_plain_26 rfl 3 rfl ?_
  obtain ⟨x7, s8, q_s8, hm⟩ := zBd_of hm
  refine z_cV (vd := false) (Cn := RX5) (k := 1) C 1 [.int v1] [] (c_X5_kind (zC_I C) (zC_st C)  q_s8) gX6_plain_X5_kind (by decide +kernel) kX1 vc5 rfl rfl dX6_plain_27 rfl ⟨Nat.le_of_ble_eq_true rfl, Nat.le_of_ble_eq_true rfl⟩ rfl (Nat.le_of_ble_eq_true rfl) ?_
  by_cases c9 : x7 = (1 : Int32)
  · have hm := zIt hm c9
    refine z_tableIn (off := 46) (tgt := 76) C dX6_plain_30 (by rw [c9]; decide) (by rw [c9]; decide) (by rw [c9]; decide) (by decide) ?_
    refine z_iload_n C dX6_plain_76 rfl 1 rfl ?_
    refine z_aload_n C dX6_plain_77 rfl 2 rfl ?_
    refine z_iload_n C dX6_plain_78 rfl 0 rfl ?_
    obtain ⟨x10, s11, q_s11, hm⟩ := zBd_of hm
    refine z_cV (vd := false) (Cn := RX6) (k := 21) C 1 [.int x5] [.int x3] (c_X6_of (zC_I C) (zC_st C)  q_s11) gX6_plain_X6_of (by decide +kernel) kX21 vc6 rfl rfl dX6_plain_79 rfl ⟨Nat.le_of_ble_eq_true rfl, Nat.le_of_ble_eq_true rfl⟩ rfl (Nat.le_of_ble_eq_true rfl) ?_
    refine z_iadd C dX6_plain_82 ?_
    refine z_ldc (v := (1000000000 : Int32)) C eX6_plain_c85 dX6_plain_83 ?_
    refine z_mmin C eX6_plain_l86 eX6_plain_stmin eX6_plain_im eX6_plain_cmmin (Nat.le_of_ble_eq_true rfl) (Nat.le_of_ble_eq_true rfl) dX6_plain_85 ?_
    exact z_iret0 C hQ (zRt_of hm).1 (zRt_of hm).2 dX6_plain_88
  have hm := zIf hm c9
  by_cases c12 : x7 = (2 : Int32)
  · have hm := zIt hm c12
    refine z_tableIn (off := 59) (tgt := 89) C dX6_plain_30 (by rw [c12]; decide) (by rw [c12]; decide) (by rw [c12]; decide) (by decide) ?_
    refine z_iload_n C dX6_plain_89 rfl 1 rfl ?_
    refine z_aload_n C dX6_plain_90 rfl 2 rfl ?_
    refine z_iload_n C dX6_plain_91 rfl 0 rfl ?_
    obtain ⟨x13, s14, q_s14, hm⟩ := zBd_of hm
    refine z_cV (vd := false) (Cn := RX6) (k := 21) C 1 [.int x5] [.int x3] (c_X6_of (zC_I C) (zC_st C)  q_s14) gX6_plain_X6_of (by decide +kernel) kX21 vc6 rfl rfl dX6_plain_92 rfl ⟨Nat.le_of_ble_eq_true rfl, Nat.le_of_ble_eq_true rfl⟩ rfl (Nat.le_of_ble_eq_true rfl) ?_
    refine z_isub C dX6_plain_95 ?_
    refine z_iconst (v := (0 : Int32)) C dX6_plain_96 (by decide) ?_
    refine z_mmax C eX6_plain_l92 eX6_plain_stmax eX6_plain_im eX6_plain_cmmax (Nat.le_of_ble_eq_true rfl) (Nat.le_of_ble_eq_true rfl) dX6_plain_97 ?_
    exact z_iret0 C hQ (zRt_of hm).1 (zRt_of hm).2 dX6_plain_100
  have hm := zIf hm c12
  by_cases c15 : x7 = (3 : Int32)
  · have hm := zIt hm c15
    refine z_tableIn (off := 71) (tgt := 101) C dX6_plain_30 (by rw [c15]; decide) (by rw [c15]; decide) (by rw [c15]; decide) (by decide) ?_
    refine z_iload_n C dX6_plain_101 rfl 1 rfl ?_
    refine z_iload_n C dX6_plain_102 rfl 0 rfl ?_
    obtain ⟨x16, s17, q_s17, hm⟩ := zBd_of hm
    refine z_cSN (vd := false) (host := "TaxEngine") C 2 [.int x3, .int x5] [] (c_X7_thousandths (zC_I C) (zC_st C)  q_s17) gX6_plain_X7_thousandths_n95 eX6_plain_n95 eX6_plain_tX7_thousandths eX6_plain_iX7_thousandths (by decide +kernel) rfl dX6_plain_103 rfl ⟨Nat.le_of_ble_eq_true rfl, Nat.le_of_ble_eq_true rfl⟩ rfl (Nat.le_of_ble_eq_true rfl) ?_
    exact z_iret0 C hQ (zRt_of hm).1 (zRt_of hm).2 dX6_plain_106
  have hm := zIf hm c15
  by_cases c18 : x7 = (4 : Int32)
  · have hm := zIt hm c18
    refine z_tableIn (off := 77) (tgt := 107) C dX6_plain_30 (by rw [c18]; decide) (by rw [c18]; decide) (by rw [c18]; decide) (by decide) ?_
    refine z_iload_n C dX6_plain_107 rfl 1 rfl ?_
    refine z_aload_n C dX6_plain_108 rfl 2 rfl ?_
    refine z_iload_n C dX6_plain_109 rfl 0 rfl ?_
    obtain ⟨x19, s20, q_s20, hm⟩ := zBd_of hm
    refine z_cV (vd := false) (Cn := RX6) (k := 21) C 1 [.int x5] [.int x3] (c_X6_of (zC_I C) (zC_st C)  q_s20) gX6_plain_X6_of (by decide +kernel) kX21 vc6 rfl rfl dX6_plain_110 rfl ⟨Nat.le_of_ble_eq_true rfl, Nat.le_of_ble_eq_true rfl⟩ rfl (Nat.le_of_ble_eq_true rfl) ?_
    refine z_mmin C eX6_plain_l86 eX6_plain_stmin eX6_plain_im eX6_plain_cmmin (Nat.le_of_ble_eq_true rfl) (Nat.le_of_ble_eq_true rfl) dX6_plain_113 ?_
    exact z_iret0 C hQ (zRt_of hm).1 (zRt_of hm).2 dX6_plain_116
  have hm := zIf hm c18
  by_cases c21 : x7 = (5 : Int32)
  · have hm := zIt hm c21
    refine z_tableIn (off := 87) (tgt := 117) C dX6_plain_30 (by rw [c21]; decide) (by rw [c21]; decide) (by rw [c21]; decide) (by decide) ?_
    refine z_iload_n C dX6_plain_117 rfl 1 rfl ?_
    refine z_aload_n C dX6_plain_118 rfl 2 rfl ?_
    refine z_iload_n C dX6_plain_119 rfl 0 rfl ?_
    obtain ⟨x22, s23, q_s23, hm⟩ := zBd_of hm
    refine z_cV (vd := false) (Cn := RX6) (k := 21) C 1 [.int x5] [.int x3] (c_X6_of (zC_I C) (zC_st C)  q_s23) gX6_plain_X6_of (by decide +kernel) kX21 vc6 rfl rfl dX6_plain_120 rfl ⟨Nat.le_of_ble_eq_true rfl, Nat.le_of_ble_eq_true rfl⟩ rfl (Nat.le_of_ble_eq_true rfl) ?_
    refine z_mmax C eX6_plain_l92 eX6_plain_stmax eX6_plain_im eX6_plain_cmmax (Nat.le_of_ble_eq_true rfl) (Nat.le_of_ble_eq_true rfl) dX6_plain_123 ?_
    exact z_iret0 C hQ (zRt_of hm).1 (zRt_of hm).2 dX6_plain_126
  have hm := zIf hm c21
  by_cases c24 : x7 = (6 : Int32)
  · have hm := zIt hm c24
    refine z_tableIn (off := 97) (tgt := 127) C dX6_plain_30 (by rw [c24]; decide) (by rw [c24]; decide) (by rw [c24]; decide) (by decide) ?_
    refine z_aload_n C dX6_plain_127 rfl 2 rfl ?_
    refine z_getr C kX21 vc6 eX6_plain_uX6 2 (by decide) rfl eX6_plain_f27 rfl dX6_plain_128 ?_
    refine z_iload_n C dX6_plain_131 rfl 1 rfl ?_
    obtain ⟨x25, s26, q_s26, hm⟩ := zBd_of hm
    refine z_cV (vd := false) (Cn := RX1) (k := 10) C 1 [.int x3] [] (c_X1_tax (zC_I C) (zC_st C)  q_s26) gX6_plain_X1_tax (by decide +kernel) kX10 vc1 rfl rfl dX6_plain_132 rfl ⟨Nat.le_of_ble_eq_true rfl, Nat.le_of_ble_eq_true rfl⟩ rfl (Nat.le_of_ble_eq_true rfl) ?_
    exact z_iret0 C hQ (zRt_of hm).1 (zRt_of hm).2 dX6_plain_135
  have hm := zIf hm c24
  by_cases c27 : x7 = (7 : Int32)
  · have hm := zIt hm c27
    refine z_tableIn (off := 106) (tgt := 136) C dX6_plain_30 (by rw [c27]; decide) (by rw [c27]; decide) (by rw [c27]; decide) (by decide) ?_
    refine z_iload_n C dX6_plain_136 rfl 1 rfl ?_
    refine z_aload_n C dX6_plain_137 rfl 2 rfl ?_
    refine z_getr C kX21 vc6 eX6_plain_uX6 3 (by decide) rfl eX6_plain_f31 rfl dX6_plain_138 ?_
    obtain ⟨x28, s29, q_s29, hm⟩ := zBd_of hm
    refine z_cV (vd := false) (Cn := RX0) (k := 13) C 0 [] [.int x3] (c_X0_total (zC_I C) (zC_st C)  q_s29) gX6_plain_X0_total (by decide +kernel) kX13 vc0 rfl rfl dX6_plain_141 rfl ⟨Nat.le_of_ble_eq_true rfl, Nat.le_of_ble_eq_true rfl⟩ rfl (Nat.le_of_ble_eq_true rfl) ?_
    refine z_mmin C eX6_plain_l86 eX6_plain_stmin eX6_plain_im eX6_plain_cmmin (Nat.le_of_ble_eq_true rfl) (Nat.le_of_ble_eq_true rfl) dX6_plain_144 ?_
    exact z_iret0 C hQ (zRt_of hm).1 (zRt_of hm).2 dX6_plain_147
  have hm := zIf hm c27
  by_cases c30 : x7 = (8 : Int32)
  · have hm := zIt hm c30
    refine z_tableIn (off := 77) (tgt := 107) C dX6_plain_30 (by rw [c30]; decide) (by rw [c30]; decide) (by rw [c30]; decide) (by decide) ?_
    refine z_iload_n C dX6_plain_107 rfl 1 rfl ?_
    refine z_aload_n C dX6_plain_108 rfl 2 rfl ?_
    refine z_iload_n C dX6_plain_109 rfl 0 rfl ?_
    obtain ⟨x31, s32, q_s32, hm⟩ := zBd_of hm
    refine z_cV (vd := false) (Cn := RX6) (k := 21) C 1 [.int x5] [.int x3] (c_X6_of (zC_I C) (zC_st C)  q_s32) gX6_plain_X6_of (by decide +kernel) kX21 vc6 rfl rfl dX6_plain_110 rfl ⟨Nat.le_of_ble_eq_true rfl, Nat.le_of_ble_eq_true rfl⟩ rfl (Nat.le_of_ble_eq_true rfl) ?_
    refine z_mmin C eX6_plain_l86 eX6_plain_stmin eX6_plain_im eX6_plain_cmmin (Nat.le_of_ble_eq_true rfl) (Nat.le_of_ble_eq_true rfl) dX6_plain_113 ?_
    exact z_iret0 C hQ (zRt_of hm).1 (zRt_of hm).2 dX6_plain_116
  have hm := zIf hm c30
  have t_c9 := z_ne (n := 1) c9 (by decide)
  have t_c12 := z_ne (n := 2) c12 (by decide)
  have t_c15 := z_ne (n := 3) c15 (by decide)
  have t_c18 := z_ne (n := 4) c18 (by decide)
  have t_c21 := z_ne (n := 5) c21 (by decide)
  have t_c24 := z_ne (n := 6) c24 (by decide)
  have t_c27 := z_ne (n := 7) c27 (by decide)
  have t_c30 := z_ne (n := 8) c30 (by decide)
  refine z_tableOut (tgt := 148) C dX6_plain_30 (by omega) (by decide) ?_
  refine z_iload_n C dX6_plain_148 rfl 3 rfl ?_
  refine z_aload_n C dX6_plain_149 rfl 2 rfl ?_
  refine z_get C kX21 vc6 eX6_plain_uX6 5 (by decide) rfl eX6_plain_f15 rfl dX6_plain_150 ?_
  refine z_icmp_ne (tgt := 169) C dX6_plain_153 (by decide) (fun c33 => ?_) (fun c33 => ?_)
  · have hm := zIf hm c33
    refine z_aload_n C dX6_plain_169 rfl 2 rfl ?_
    refine z_getr C kX21 vc6 eX6_plain_uX6 0 (by decide) rfl eX6_plain_f19 rfl dX6_plain_170 ?_
    refine z_iload_n C dX6_plain_173 rfl 3 rfl ?_
    obtain ⟨x34, s35, q_s35, hm⟩ := zBd_of hm
    refine z_cV (vd := false) (Cn := RX5) (k := 1) C 1 [.int v1] [] (c_X5_given (zC_I C) (zC_st C)  q_s35) gX6_plain_X5_given (by decide +kernel) kX1 vc5 rfl rfl dX6_plain_174 rfl ⟨Nat.le_of_ble_eq_true rfl, Nat.le_of_ble_eq_true rfl⟩ rfl (Nat.le_of_ble_eq_true rfl) ?_
    exact z_iret0 C hQ (zRt_of hm).1 (zRt_of hm).2 dX6_plain_177
  · have hm := zIt hm c33
    refine z_aload_n C dX6_plain_156 rfl 2 rfl ?_
    refine z_getr C kX21 vc6 eX6_plain_uX6 0 (by decide) rfl eX6_plain_f19 rfl dX6_plain_157 ?_
    refine z_iload_n C dX6_plain_160 rfl 3 rfl ?_
    obtain ⟨x36, s37, q_s37, hm⟩ := zBd_of hm
    refine z_cV (vd := false) (Cn := RX5) (k := 1) C 1 [.int v1] [] (c_X5_given (zC_I C) (zC_st C)  q_s37) gX6_plain_X5_given (by decide +kernel) kX1 vc5 rfl rfl dX6_plain_161 rfl ⟨Nat.le_of_ble_eq_true rfl, Nat.le_of_ble_eq_true rfl⟩ rfl (Nat.le_of_ble_eq_true rfl) ?_
    refine z_iconst (v := (1 : Int32)) C dX6_plain_164 (by decide) ?_
    refine z_iadd C dX6_plain_165 ?_
    refine z_goto (tgt := 177) C dX6_plain_166 (by decide) ?_
    exact z_iret0 C hQ (zRt_of hm).1 (zRt_of hm).2 dX6_plain_177
set_option maxRecDepth 100000 in
set_option maxHeartbeats 4000000 in
theorem c_X6_plain {h : zH} {ad : Nat → Nat} (hI : zI ad zLX.length) (hst : h.1.stackTraces = false) {n : Nat} {v1 : Int32} {s s9 : zS} {r : Int32} (hm : m_X6_plain n v1 s = some (r, s9)) : zMR h ad zLX false yX6_plain wsX6_plain 3 64 [.ref (ad 21), .int v1] s (.inl r) s9 :=
  z_start (cc := cX6_plain) (nL := 4) (ret := (some .int)) (own := RX6) (by decide +kernel) rfl rfl hI hst (Nat.le_of_ble_eq_true rfl) (fun G C hQ => w_X6_plain_e C hQ _ hm)
set_option maxRecDepth 100000 in
theorem eX6_suppose_uX6 : ∀ w ∈ wsX60, w ∈ wsX6_suppose := by decide +kernel
set_option maxRecDepth 100000 in
theorem eX6_suppose_f23 : Cond.fieldLink RX6 23 RX6 (TX6 1).2.1 (TX6 1).2.2.1 ∈ wsX6_suppose := by decide +kernel
set_option maxRecDepth 100000 in
theorem eX6_suppose_f9 : Cond.fieldLink RX6 9 RX6 (TX6 4).2.1 (TX6 4).2.2.1 ∈ wsX6_suppose := by decide +kernel
set_option maxRecDepth 100000 in
theorem eX6_suppose_tX7_put : Cond.static yX7_put ∈ wsX6_suppose := by decide +kernel
set_option maxRecDepth 100000 in
theorem eX6_suppose_iX7_put : Cond.initialized yX7_put.cls ∈ wsX6_suppose := by decide +kernel
set_option maxRecDepth 100000 in
theorem eX6_suppose_n60 : (RX6, 60, yX7_put, "TaxEngine") ∈ zN := by decide +kernel
set_option maxRecDepth 100000 in
set_option maxHeartbeats 4000000 in
theorem w_X6_suppose_j38 {h : zH} {ad : Nat → Nat} {G : zG} (C : zC h ad zLX 7 G cX6_suppose RX6 wsX6_suppose 4 87) {n : Nat} {r : Int32} {s9 : zS} (hQ : zQ h ad zLX G true (.inl r) s9 none) : ∀ (f : Nat) (v4 : Int32) (v5 : Int32) (s : zS), m_X6_suppose_j38 n f v4 v5 s = some (r, s9) → zV h ad zLX 7 G s 38 [(0, .ref (ad 21)), (4, .int v4), (5, .int v5)] [] := by
  intro f
  induction f with
  | zero => intro v4 v5 s hm; simp [m_X6_suppose_j38] at hm
  | succ f ih =>
    intro v4 v5 s hm
    rw [m_X6_suppose_j38] at hm
    refine z_iload C dX6_suppose_38 2 rfl ?_
    refine z_iload C dX6_suppose_40 1 rfl ?_
    refine z_icmp_ge (tgt := 77) C dX6_suppose_42 (by decide) (fun c1 => ?_) (fun c1 => ?_)
    · have hm := zIt hm c1
      exact z_vret0 C hQ (zRt_of hm).1 (zRt_of hm).2 dX6_suppose_77
    · have hm := zIf hm c1
      refine z_aload_n C dX6_suppose_45 rfl 0 rfl ?_
      refine z_getr C kX21 vc6 eX6_suppose_uX6 1 (by decide) rfl eX6_suppose_f23 rfl dX6_suppose_46 ?_
      refine z_iload C dX6_suppose_49 2 rfl ?_
      obtain ⟨x2, s3, q_s3, hm⟩ := zBd_of hm
      refine z_cV (vd := false) (Cn := RX4) (k := 6) C 1 [.int v5] [] (c_X4_lineAt (zC_I C) (zC_st C)  q_s3) gX6_suppose_X4_lineAt (by decide +kernel) kX6 vc4 rfl rfl dX6_suppose_51 rfl ⟨Nat.le_of_ble_eq_true rfl, Nat.le_of_ble_eq_true rfl⟩ rfl (Nat.le_of_ble_eq_true rfl) ?_
      refine z_istore (y := x2) (lv' := [(6, .int x2), (0, .ref (ad 21)), (4, .int v4), (5, .int v5)]) C dX6_suppose_54 (by decide) rfl rfl ?_
      refine z_aload_n C dX6_suppose_56 rfl 1 rfl ?_
      refine z_getr C kX21 vc6 eX6_suppose_uX6 4 (by decide) rfl eX6_suppose_f9 rfl dX6_suppose_57 ?_
      refine z_iload C dX6_suppose_60 0 rfl ?_
      refine z_aload_n C dX6_suppose_62 rfl 1 rfl ?_
      refine z_iload C dX6_suppose_63 0 rfl ?_
      obtain ⟨x4, s5, q_s5, hm⟩ := zBd_of hm
      refine z_cV (vd := false) (Cn := RX6) (k := 21) C 1 [.int x2] [.int x2, .ref (ad 22)] (c_X6_plain (zC_I C) (zC_st C)  q_s5) gX6_suppose_X6_plain (by decide +kernel) kX21 vc6 rfl rfl dX6_suppose_65 rfl ⟨Nat.le_of_ble_eq_true rfl, Nat.le_of_ble_eq_true rfl⟩ rfl (Nat.le_of_ble_eq_true rfl) ?_
      obtain ⟨x6, s7, q_s7, hm⟩ := zBd_of hm
      refine z_cSN (vd := true) (host := "TaxEngine") C 3 [.ref (ad 22), .int x2, .int x4] [] (c_X7_put (zC_I C) (zC_st C) kX22 q_s7) gX6_suppose_X7_put_n60 eX6_suppose_n60 eX6_suppose_tX7_put eX6_suppose_iX7_put (by decide +kernel) rfl dX6_suppose_68 rfl ⟨Nat.le_of_ble_eq_true rfl, Nat.le_of_ble_eq_true rfl⟩ rfl (Nat.le_of_ble_eq_true rfl) ?_
      obtain ⟨x8, e_x8, hm⟩ := zLt_of hm
      refine z_iinc (j := 3) (v := x8) (d := (1 : Int32)) (lv' := [(5, .int x8), (6, .int x2), (0, .ref (ad 21)), (4, .int v4)]) C dX6_suppose_71 rfl (by decide) e_x8 (by decide) rfl ?_
      refine z_goto (tgt := 38) C dX6_suppose_74 (by decide) ?_
      exact z_sub [2, 3, 0] rfl (ih _ _ _ hm)
set_option maxRecDepth 100000 in
set_option maxHeartbeats 4000000 in
theorem w_X6_suppose_e {h : zH} {ad : Nat → Nat} {G : zG} (C : zC h ad zLX 7 G cX6_suppose RX6 wsX6_suppose 4 87) {n : Nat} {r : Int32} {s9 : zS} (hQ : zQ h ad zLX G true (.inl r) s9 none) {v1 : Int32} {v2 : Int32} (s : zS) (hm : m_X6_suppose n v1 v2 s = some (r, s9)) : zV h ad zLX 7 G s 0 [(0, .ref (ad 21)), (1, .int v1), (2, .int v2)] [] := by
  rw [m_X6_suppose] at hm
  refine z_aload_n C dX6_suppose_0 rfl 0 rfl ?_
  refine z_getr C kX21 vc6 eX6_suppose_uX6 1 (by decide) rfl eX6_suppose_f23 rfl dX6_suppose_1 ?_
  refine z_iload_n C dX6_suppose_4 rfl 1 rfl ?_
  obtain ⟨x9, s10, q_s10, hm⟩ := zBd_of hm
  refine z_cV (vd := false) (Cn := RX4) (k := 6) C 1 [.int v1] [] (c_X4_lineAt (zC_I C) (zC_st C)  q_s10) gX6_suppose_X4_lineAt (by decide +kernel) kX6 vc4 rfl rfl dX6_suppose_5 rfl ⟨Nat.le_of_ble_eq_true rfl, Nat.le_of_ble_eq_true rfl⟩ rfl (Nat.le_of_ble_eq_true rfl) ?_
  refine z_istore_n (y := x9) (lv' := [(3, .int x9), (0, .ref (ad 21)), (1, .int v1), (2, .int v2)]) C dX6_suppose_8 rfl (by decide) rfl rfl ?_
  refine z_aload_n C dX6_suppose_9 rfl 1 rfl ?_
  refine z_getr C kX21 vc6 eX6_suppose_uX6 4 (by decide) rfl eX6_suppose_f9 rfl dX6_suppose_10 ?_
  refine z_iload_n C dX6_suppose_13 rfl 0 rfl ?_
  refine z_iload_n C dX6_suppose_14 rfl 3 rfl ?_
  obtain ⟨x11, s12, q_s12, hm⟩ := zBd_of hm
  refine z_cSN (vd := true) (host := "TaxEngine") C 3 [.ref (ad 22), .int x9, .int v2] [] (c_X7_put (zC_I C) (zC_st C) kX22 q_s12) gX6_suppose_X7_put_n60 eX6_suppose_n60 eX6_suppose_tX7_put eX6_suppose_iX7_put (by decide +kernel) rfl dX6_suppose_15 rfl ⟨Nat.le_of_ble_eq_true rfl, Nat.le_of_ble_eq_true rfl⟩ rfl (Nat.le_of_ble_eq_true rfl) ?_
  refine z_iload_n C dX6_suppose_18 rfl 2 rfl ?_
  refine z_aload_n C dX6_suppose_19 rfl 1 rfl ?_
  refine z_getr C kX21 vc6 eX6_suppose_uX6 1 (by decide) rfl eX6_suppose_f23 rfl dX6_suppose_20 ?_
  refine z_iload_n C dX6_suppose_23 rfl 0 rfl ?_
  obtain ⟨x13, s14, q_s14, hm⟩ := zBd_of hm
  refine z_cV (vd := false) (Cn := RX4) (k := 6) C 1 [.int x9] [.int v1] (c_X4_groupOf (zC_I C) (zC_st C)  q_s14) gX6_suppose_X4_groupOf (by decide +kernel) kX6 vc4 rfl rfl dX6_suppose_24 rfl ⟨Nat.le_of_ble_eq_true rfl, Nat.le_of_ble_eq_true rfl⟩ rfl (Nat.le_of_ble_eq_true rfl) ?_
  obtain ⟨x15, s16, q_s16, hm⟩ := zBd_of hm
  refine z_cS (vd := false) C 1 [.int x13] [.int v1] (c_J6_bitCount_0f7a4 (zC_I C) (zC_st C)  q_s16) gX6_suppose_J6_bitCount_0f7a4 (by decide +kernel) rfl dX6_suppose_27 rfl ⟨Nat.le_of_ble_eq_true rfl, Nat.le_of_ble_eq_true rfl⟩ rfl (Nat.le_of_ble_eq_true rfl) ?_
  refine z_iadd C dX6_suppose_30 ?_
  obtain ⟨x17, e_x17, hm⟩ := zLt_of hm
  refine z_istore (y := x17) (lv' := [(4, .int x17), (3, .int x9), (0, .ref (ad 21)), (1, .int v1), (2, .int v2)]) C dX6_suppose_31 (by decide) e_x17 rfl ?_
  refine z_iload_n C dX6_suppose_33 rfl 3 rfl ?_
  refine z_iconst (v := (1 : Int32)) C dX6_suppose_34 (by decide) ?_
  refine z_iadd C dX6_suppose_35 ?_
  obtain ⟨x18, e_x18, hm⟩ := zLt_of hm
  refine z_istore (y := x18) (lv' := [(5, .int x18), (4, .int x17), (3, .int x9), (0, .ref (ad 21)), (1, .int v1), (2, .int v2)]) C dX6_suppose_36 (by decide) e_x18 rfl ?_
  exact z_sub [3, 1, 0] rfl (w_X6_suppose_j38 C hQ  _ _ _ _ hm)
set_option maxRecDepth 100000 in
set_option maxHeartbeats 4000000 in
theorem c_X6_suppose {h : zH} {ad : Nat → Nat} (hI : zI ad zLX.length) (hst : h.1.stackTraces = false) {n : Nat} {v1 : Int32} {v2 : Int32} {s s9 : zS} {r : Int32} (hm : m_X6_suppose n v1 v2 s = some (r, s9)) : zMR h ad zLX true yX6_suppose wsX6_suppose 4 87 [.ref (ad 21), .int v1, .int v2] s (.inl r) s9 :=
  z_start (cc := cX6_suppose) (nL := 7) (ret := none) (own := RX6) (by decide +kernel) rfl rfl hI hst (Nat.le_of_ble_eq_true rfl) (fun G C hQ => w_X6_suppose_e C hQ _ hm)
set_option maxRecDepth 100000 in
theorem eX6_greatest_uX6 : ∀ w ∈ wsX60, w ∈ wsX6_greatest := by decide +kernel
set_option maxRecDepth 100000 in
theorem eX6_greatest_f19 : Cond.fieldLink RX6 19 RX6 (TX6 0).2.1 (TX6 0).2.2.1 ∈ wsX6_greatest := by decide +kernel
set_option maxRecDepth 100000 in
theorem eX6_greatest_f23 : Cond.fieldLink RX6 23 RX6 (TX6 1).2.1 (TX6 1).2.2.1 ∈ wsX6_greatest := by decide +kernel
set_option maxRecDepth 100000 in
set_option maxHeartbeats 4000000 in
theorem w_X6_greatest_j28 {h : zH} {ad : Nat → Nat} {G : zG} (C : zC h ad zLX 7 G cX6_greatest RX6 wsX6_greatest 5 113) {n : Nat} {r : Int32} {s9 : zS} (hQ : zQ h ad zLX G false (.inl r) s9 (some .int)) : ∀ (f : Nat) (v1 : Int32) (v2 : Int32) (v3 : Int32) (v4 : Int32) (v5 : Int32) (s : zS), m_X6_greatest_j28 n f v1 v2 v3 v4 v5 s = some (r, s9) → zV h ad zLX 7 G s 28 [(0, .ref (ad 21)), (1, .int v1), (2, .int v2), (3, .int v3), (4, .int v4), (5, .int v5)] [] := by
  intro f
  induction f with
  | zero => intro v1 v2 v3 v4 v5 s hm; simp [m_X6_greatest_j28] at hm
  | succ f ih =>
    intro v1 v2 v3 v4 v5 s hm
    rw [m_X6_greatest_j28] at hm
    refine z_iload C dX6_greatest_28 5 rfl ?_
    refine z_bipush (v := (31 : Int32)) C dX6_greatest_30 (by decide) ?_
    refine z_icmp_ge (tgt := 95) C dX6_greatest_32 (by decide) (fun c1 => ?_) (fun c1 => ?_)
    · have hm := zIt hm c1
      refine z_iload_n C dX6_greatest_95 rfl 3 rfl ?_
      exact z_iret0 C hQ (zRt_of hm).1 (zRt_of hm).2 dX6_greatest_96
    · have hm := zIf hm c1
      refine z_iload_n C dX6_greatest_35 rfl 3 rfl ?_
      refine z_iload C dX6_greatest_36 4 rfl ?_
      refine z_icmp_ge (tgt := 95) C dX6_greatest_38 (by decide) (fun c2 => ?_) (fun c2 => ?_)
      · have hm := zIt hm c2
        refine z_iload_n C dX6_greatest_95 rfl 3 rfl ?_
        exact z_iret0 C hQ (zRt_of hm).1 (zRt_of hm).2 dX6_greatest_96
      · have hm := zIf hm c2
        refine z_iload_n C dX6_greatest_41 rfl 3 rfl ?_
        refine z_iload C dX6_greatest_42 4 rfl ?_
        refine z_iload_n C dX6_greatest_44 rfl 3 rfl ?_
        refine z_isub C dX6_greatest_45 ?_
        refine z_iconst (v := (1 : Int32)) C dX6_greatest_46 (by decide) ?_
        refine z_iadd C dX6_greatest_47 ?_
        refine z_iconst (v := (2 : Int32)) C dX6_greatest_48 (by decide) ?_
        refine z_idiv C dX6_greatest_49 (by decide) ?_
        refine z_iadd C dX6_greatest_50 ?_
        obtain ⟨x3, e_x3, hm⟩ := zLt_of hm
        refine z_istore (y := x3) (lv' := [(6, .int x3), (0, .ref (ad 21)), (1, .int v1), (2, .int v2), (3, .int v3), (4, .int v4), (5, .int v5)]) C dX6_greatest_51 (by decide) e_x3 rfl ?_
        refine z_aload_n C dX6_greatest_53 rfl 1 rfl ?_
        refine z_iload_n C dX6_greatest_54 rfl 2 rfl ?_
        refine z_iload C dX6_greatest_55 0 rfl ?_
        obtain ⟨x4, s5, q_s5, hm⟩ := zBd_of hm
        refine z_cV (vd := true) (Cn := RX6) (k := 21) C 2 [.int v1, .int x3] [] (c_X6_suppose (zC_I C) (zC_st C)  q_s5) gX6_greatest_X6_suppose (by decide +kernel) kX21 vc6 rfl rfl dX6_greatest_57 rfl ⟨Nat.le_of_ble_eq_true rfl, Nat.le_of_ble_eq_true rfl⟩ rfl (Nat.le_of_ble_eq_true rfl) ?_
        refine z_iload C dX6_greatest_60 0 rfl ?_
        refine z_aload_n C dX6_greatest_62 rfl 1 rfl ?_
        refine z_aload_n C dX6_greatest_63 rfl 1 rfl ?_
        refine z_getr C kX21 vc6 eX6_greatest_uX6 0 (by decide) rfl eX6_greatest_f19 rfl dX6_greatest_64 ?_
        refine z_iload_n C dX6_greatest_67 rfl 3 rfl ?_
        obtain ⟨x6, s7, q_s7, hm⟩ := zBd_of hm
        refine z_cV (vd := false) (Cn := RX5) (k := 1) C 1 [.int v2] [.ref (ad 21), .int x3] (c_X5_second (zC_I C) (zC_st C)  q_s7) gX6_greatest_X5_second (by decide +kernel) kX1 vc5 rfl rfl dX6_greatest_68 rfl ⟨Nat.le_of_ble_eq_true rfl, Nat.le_of_ble_eq_true rfl⟩ rfl (Nat.le_of_ble_eq_true rfl) ?_
        obtain ⟨x8, s9, q_s9, hm⟩ := zBd_of hm
        refine z_cV (vd := false) (Cn := RX6) (k := 21) C 1 [.int x6] [.int x3] (c_X6_of (zC_I C) (zC_st C)  q_s9) gX6_greatest_X6_of (by decide +kernel) kX21 vc6 rfl rfl dX6_greatest_71 rfl ⟨Nat.le_of_ble_eq_true rfl, Nat.le_of_ble_eq_true rfl⟩ rfl (Nat.le_of_ble_eq_true rfl) ?_
        refine z_icmp_gt (tgt := 83) C dX6_greatest_74 (by decide) (fun c10 => ?_) (fun c10 => ?_)
        · have hm := zIt hm c10
          refine z_iload C dX6_greatest_83 0 rfl ?_
          refine z_iconst (v := (1 : Int32)) C dX6_greatest_85 (by decide) ?_
          refine z_isub C dX6_greatest_86 ?_
          obtain ⟨x11, e_x11, hm⟩ := zLt_of hm
          refine z_istore (y := x11) (lv' := [(4, .int x11), (6, .int x3), (0, .ref (ad 21)), (1, .int v1), (2, .int v2), (3, .int v3), (5, .int v5)]) C dX6_greatest_87 (by decide) e_x11 rfl ?_
          obtain ⟨x12, e_x12, hm⟩ := zLt_of hm
          refine z_iinc (j := 6) (v := x12) (d := (1 : Int32)) (lv' := [(5, .int x12), (4, .int x11), (6, .int x3), (0, .ref (ad 21)), (1, .int v1), (2, .int v2), (3, .int v3)]) C dX6_greatest_89 rfl (by decide) e_x12 (by decide) rfl ?_
          refine z_goto (tgt := 28) C dX6_greatest_92 (by decide) ?_
          exact z_sub [3, 4, 5, 6, 1, 0] rfl (ih _ _ _ _ _ _ hm)
        · have hm := zIf hm c10
          refine z_iload C dX6_greatest_77 0 rfl ?_
          refine z_istore_n (y := x3) (lv' := [(3, .int x3), (6, .int x3), (0, .ref (ad 21)), (1, .int v1), (2, .int v2), (4, .int v4), (5, .int v5)]) C dX6_greatest_79 rfl (by decide) rfl rfl ?_
          refine z_goto (tgt := 89) C dX6_greatest_80 (by decide) ?_
          obtain ⟨x13, e_x13, hm⟩ := zLt_of hm
          refine z_iinc (j := 6) (v := x13) (d := (1 : Int32)) (lv' := [(5, .int x13), (3, .int x3), (6, .int x3), (0, .ref (ad 21)), (1, .int v1), (2, .int v2), (4, .int v4)]) C dX6_greatest_89 rfl (by decide) e_x13 (by decide) rfl ?_
          refine z_goto (tgt := 28) C dX6_greatest_92 (by decide) ?_
          exact z_sub [3, 4, 5, 1, 6, 0] rfl (ih _ _ _ _ _ _ hm)
set_option maxRecDepth 100000 in
set_option maxHeartbeats 4000000 in
theorem w_X6_greatest_e {h : zH} {ad : Nat → Nat} {G : zG} (C : zC h ad zLX 7 G cX6_greatest RX6 wsX6_greatest 5 113) {n : Nat} {r : Int32} {s9 : zS} (hQ : zQ h ad zLX G false (.inl r) s9 (some .int)) {v1 : Int32} (s : zS) (hm : m_X6_greatest n v1 s = some (r, s9)) : zV h ad zLX 7 G s 0 [(0, .ref (ad 21)), (1, .int v1)] [] := by
  rw [m_X6_greatest] at hm
  refine z_aload_n C dX6_greatest_0 rfl 0 rfl ?_
  refine z_getr C kX21 vc6 eX6_greatest_uX6 1 (by decide) rfl eX6_greatest_f23 rfl dX6_greatest_1 ?_
  refine z_iload_n C dX6_greatest_4 rfl 1 rfl ?_
  obtain ⟨x14, s15, q_s15, hm⟩ := zBd_of hm
  refine z_cV (vd := false) (Cn := RX4) (k := 6) C 1 [.int v1] [] (c_X4_lineAt (zC_I C) (zC_st C)  q_s15) gX6_greatest_X4_lineAt (by decide +kernel) kX6 vc4 rfl rfl dX6_greatest_5 rfl ⟨Nat.le_of_ble_eq_true rfl, Nat.le_of_ble_eq_true rfl⟩ rfl (Nat.le_of_ble_eq_true rfl) ?_
  refine z_istore_n (y := x14) (lv' := [(2, .int x14), (0, .ref (ad 21)), (1, .int v1)]) C dX6_greatest_8 rfl (by decide) rfl rfl ?_
  refine z_iconst (v := (0 : Int32)) C dX6_greatest_9 (by decide) ?_
  refine z_istore_n (y := (0 : Int32)) (lv' := [(3, .int (0 : Int32)), (2, .int x14), (0, .ref (ad 21)), (1, .int v1)]) C dX6_greatest_10 rfl (by decide) rfl rfl ?_
  refine z_aload_n C dX6_greatest_11 rfl 2 rfl ?_
  refine z_aload_n C dX6_greatest_12 rfl 2 rfl ?_
  refine z_getr C kX21 vc6 eX6_greatest_uX6 0 (by decide) rfl eX6_greatest_f19 rfl dX6_greatest_13 ?_
  refine z_iload_n C dX6_greatest_16 rfl 1 rfl ?_
  obtain ⟨x16, s17, q_s17, hm⟩ := zBd_of hm
  refine z_cV (vd := false) (Cn := RX5) (k := 1) C 1 [.int x14] [.ref (ad 21)] (c_X5_first (zC_I C) (zC_st C)  q_s17) gX6_greatest_X5_first (by decide +kernel) kX1 vc5 rfl rfl dX6_greatest_17 rfl ⟨Nat.le_of_ble_eq_true rfl, Nat.le_of_ble_eq_true rfl⟩ rfl (Nat.le_of_ble_eq_true rfl) ?_
  obtain ⟨x18, s19, q_s19, hm⟩ := zBd_of hm
  refine z_cV (vd := false) (Cn := RX6) (k := 21) C 1 [.int x16] [] (c_X6_of (zC_I C) (zC_st C)  q_s19) gX6_greatest_X6_of (by decide +kernel) kX21 vc6 rfl rfl dX6_greatest_20 rfl ⟨Nat.le_of_ble_eq_true rfl, Nat.le_of_ble_eq_true rfl⟩ rfl (Nat.le_of_ble_eq_true rfl) ?_
  refine z_istore (y := x18) (lv' := [(4, .int x18), (3, .int (0 : Int32)), (2, .int x14), (0, .ref (ad 21)), (1, .int v1)]) C dX6_greatest_23 (by decide) rfl rfl ?_
  refine z_iconst (v := (0 : Int32)) C dX6_greatest_25 (by decide) ?_
  refine z_istore (y := (0 : Int32)) (lv' := [(5, .int (0 : Int32)), (4, .int x18), (3, .int (0 : Int32)), (2, .int x14), (0, .ref (ad 21)), (1, .int v1)]) C dX6_greatest_26 (by decide) rfl rfl ?_
  exact z_sub [4, 5, 3, 2, 1, 0] rfl (w_X6_greatest_j28 C hQ  _ _ _ _ _ _ _ hm)
set_option maxRecDepth 100000 in
set_option maxHeartbeats 4000000 in
theorem c_X6_greatest {h : zH} {ad : Nat → Nat} (hI : zI ad zLX.length) (hst : h.1.stackTraces = false) {n : Nat} {v1 : Int32} {s s9 : zS} {r : Int32} (hm : m_X6_greatest n v1 s = some (r, s9)) : zMR h ad zLX false yX6_greatest wsX6_greatest 5 113 [.ref (ad 21), .int v1] s (.inl r) s9 :=
  z_start (cc := cX6_greatest) (nL := 7) (ret := (some .int)) (own := RX6) (by decide +kernel) rfl rfl hI hst (Nat.le_of_ble_eq_true rfl) (fun G C hQ => w_X6_greatest_e C hQ _ hm)
set_option maxRecDepth 100000 in
theorem eX6_workOut_uX6 : ∀ w ∈ wsX60, w ∈ wsX6_workOut := by decide +kernel
set_option maxRecDepth 100000 in
theorem eX6_workOut_f9 : Cond.fieldLink RX6 9 RX6 (TX6 4).2.1 (TX6 4).2.2.1 ∈ wsX6_workOut := by decide +kernel
set_option maxRecDepth 100000 in
theorem eX6_workOut_tX7_put : Cond.static yX7_put ∈ wsX6_workOut := by decide +kernel
set_option maxRecDepth 100000 in
theorem eX6_workOut_iX7_put : Cond.initialized yX7_put.cls ∈ wsX6_workOut := by decide +kernel
set_option maxRecDepth 100000 in
theorem eX6_workOut_n60 : (RX6, 60, yX7_put, "TaxEngine") ∈ zN := by decide +kernel
set_option maxRecDepth 100000 in
theorem eX6_workOut_f23 : Cond.fieldLink RX6 23 RX6 (TX6 1).2.1 (TX6 1).2.2.1 ∈ wsX6_workOut := by decide +kernel
set_option maxRecDepth 100000 in
theorem eX6_workOut_f19 : Cond.fieldLink RX6 19 RX6 (TX6 0).2.1 (TX6 0).2.2.1 ∈ wsX6_workOut := by decide +kernel
set_option maxRecDepth 100000 in
theorem eX6_workOut_f15 : Cond.fieldLink RX6 15 RX6 (TX6 5).2.1 (TX6 5).2.2.1 ∈ wsX6_workOut := by decide +kernel
set_option maxRecDepth 100000 in
set_option maxHeartbeats 4000000 in
theorem w_X6_workOut_j51 {h : zH} {ad : Nat → Nat} {G : zG} (C : zC h ad zLX 5 G cX6_workOut RX6 wsX6_workOut 6 139) {n : Nat} {r : Int32} {s9 : zS} (hQ : zQ h ad zLX G true (.inl r) s9 none) {rec7 : Int32 → zS → Option (Int32 × zS)} (hrec7 : ∀ (v2 : Int32) (s : zS), rec7 v2 s = some (r, s9) → zV h ad zLX 5 G s 7 [(0, .ref (ad 21)), (2, .int v2)] []) (v2 : Int32) (v3 : Int32) (t0 : Int32) (s : zS) (hm : m_X6_workOut_j51 rec7 n v2 v3 t0 s = some (r, s9)) : zV h ad zLX 5 G s 51 [(0, .ref (ad 21)), (2, .int v2), (3, .int v3)] [.int t0] := by
  rw [m_X6_workOut_j51] at hm
  refine z_istore (y := t0) (lv' := [(4, .int t0), (0, .ref (ad 21)), (2, .int v2), (3, .int v3)]) C dX6_workOut_51 (by decide) rfl rfl ?_
  refine z_aload_n C dX6_workOut_53 rfl 1 rfl ?_
  refine z_getr C kX21 vc6 eX6_workOut_uX6 4 (by decide) rfl eX6_workOut_f9 rfl dX6_workOut_54 ?_
  refine z_iload_n C dX6_workOut_57 rfl 3 rfl ?_
  refine z_iload C dX6_workOut_58 0 rfl ?_
  refine z_if_eq (tgt := 71) C dX6_workOut_60 (by decide) (fun c1 => ?_) (fun c1 => ?_)
  · have hm := zIt hm c1
    refine z_aload_n C dX6_workOut_71 rfl 1 rfl ?_
    refine z_iload_n C dX6_workOut_72 rfl 3 rfl ?_
    obtain ⟨x2, s3, q_s3, hm⟩ := zBd_of hm
    refine z_cV (vd := false) (Cn := RX6) (k := 21) C 1 [.int v3] [.int v3, .ref (ad 22)] (c_X6_plain (zC_I C) (zC_st C)  q_s3) gX6_workOut_X6_plain (by decide +kernel) kX21 vc6 rfl rfl dX6_workOut_73 rfl ⟨Nat.le_of_ble_eq_true rfl, Nat.le_of_ble_eq_true rfl⟩ rfl (Nat.le_of_ble_eq_true rfl) ?_
    obtain ⟨x4, s5, q_s5, hm⟩ := zBd_of hm
    refine z_cSN (vd := true) (host := "TaxEngine") C 3 [.ref (ad 22), .int v3, .int x2] [] (c_X7_put (zC_I C) (zC_st C) kX22 q_s5) gX6_workOut_X7_put_n60 eX6_workOut_n60 eX6_workOut_tX7_put eX6_workOut_iX7_put (by decide +kernel) rfl dX6_workOut_76 rfl ⟨Nat.le_of_ble_eq_true rfl, Nat.le_of_ble_eq_true rfl⟩ rfl (Nat.le_of_ble_eq_true rfl) ?_
    obtain ⟨x6, e_x6, hm⟩ := zLt_of hm
    refine z_iinc (j := 2) (v := x6) (d := (1 : Int32)) (lv' := [(2, .int x6), (4, .int t0), (0, .ref (ad 21)), (3, .int v3)]) C dX6_workOut_79 rfl (by decide) e_x6 (by decide) rfl ?_
    refine z_goto (tgt := 7) C dX6_workOut_82 (by decide) ?_
    exact z_sub [2, 0] rfl (hrec7 _ _ hm)
  · have hm := zIf hm c1
    refine z_aload_n C dX6_workOut_63 rfl 1 rfl ?_
    refine z_iload_n C dX6_workOut_64 rfl 2 rfl ?_
    obtain ⟨x7, s8, q_s8, hm⟩ := zBd_of hm
    refine z_cV (vd := false) (Cn := RX6) (k := 21) C 1 [.int v2] [.int v3, .ref (ad 22)] (c_X6_greatest (zC_I C) (zC_st C)  q_s8) gX6_workOut_X6_greatest (by decide +kernel) kX21 vc6 rfl rfl dX6_workOut_65 rfl ⟨Nat.le_of_ble_eq_true rfl, Nat.le_of_ble_eq_true rfl⟩ rfl (Nat.le_of_ble_eq_true rfl) ?_
    refine z_goto (tgt := 76) C dX6_workOut_68 (by decide) ?_
    obtain ⟨x9, s10, q_s10, hm⟩ := zBd_of hm
    refine z_cSN (vd := true) (host := "TaxEngine") C 3 [.ref (ad 22), .int v3, .int x7] [] (c_X7_put (zC_I C) (zC_st C) kX22 q_s10) gX6_workOut_X7_put_n60 eX6_workOut_n60 eX6_workOut_tX7_put eX6_workOut_iX7_put (by decide +kernel) rfl dX6_workOut_76 rfl ⟨Nat.le_of_ble_eq_true rfl, Nat.le_of_ble_eq_true rfl⟩ rfl (Nat.le_of_ble_eq_true rfl) ?_
    obtain ⟨x11, e_x11, hm⟩ := zLt_of hm
    refine z_iinc (j := 2) (v := x11) (d := (1 : Int32)) (lv' := [(2, .int x11), (4, .int t0), (0, .ref (ad 21)), (3, .int v3)]) C dX6_workOut_79 rfl (by decide) e_x11 (by decide) rfl ?_
    refine z_goto (tgt := 7) C dX6_workOut_82 (by decide) ?_
    exact z_sub [2, 0] rfl (hrec7 _ _ hm)
set_option maxRecDepth 100000 in
set_option maxHeartbeats 4000000 in
theorem w_X6_workOut_j7 {h : zH} {ad : Nat → Nat} {G : zG} (C : zC h ad zLX 5 G cX6_workOut RX6 wsX6_workOut 6 139) {n : Nat} {r : Int32} {s9 : zS} (hQ : zQ h ad zLX G true (.inl r) s9 none) : ∀ (f : Nat) (v2 : Int32) (s : zS), m_X6_workOut_j7 n f v2 s = some (r, s9) → zV h ad zLX 5 G s 7 [(0, .ref (ad 21)), (2, .int v2)] [] := by
  intro f
  induction f with
  | zero => intro v2 s hm; simp [m_X6_workOut_j7] at hm
  | succ f ih =>
    intro v2 s hm
    rw [m_X6_workOut_j7] at hm
    refine z_iload_n C dX6_workOut_7 rfl 1 rfl ?_
    refine z_bipush (v := (16 : Int32)) C dX6_workOut_8 (by decide) ?_
    refine z_icmp_ge (tgt := 85) C dX6_workOut_10 (by decide) (fun c12 => ?_) (fun c12 => ?_)
    · have hm := zIt hm c12
      exact z_vret0 C hQ (zRt_of hm).1 (zRt_of hm).2 dX6_workOut_85
    · have hm := zIf hm c12
      refine z_aload_n C dX6_workOut_13 rfl 0 rfl ?_
      refine z_getr C kX21 vc6 eX6_workOut_uX6 1 (by decide) rfl eX6_workOut_f23 rfl dX6_workOut_14 ?_
      refine z_iload_n C dX6_workOut_17 rfl 1 rfl ?_
      obtain ⟨x13, s14, q_s14, hm⟩ := zBd_of hm
      refine z_cV (vd := false) (Cn := RX4) (k := 6) C 1 [.int v2] [] (c_X4_lineAt (zC_I C) (zC_st C)  q_s14) gX6_workOut_X4_lineAt (by decide +kernel) kX6 vc4 rfl rfl dX6_workOut_18 rfl ⟨Nat.le_of_ble_eq_true rfl, Nat.le_of_ble_eq_true rfl⟩ rfl (Nat.le_of_ble_eq_true rfl) ?_
      refine z_istore_n (y := x13) (lv' := [(3, .int x13), (0, .ref (ad 21)), (2, .int v2)]) C dX6_workOut_21 rfl (by decide) rfl rfl ?_
      refine z_aload_n C dX6_workOut_22 rfl 1 rfl ?_
      refine z_getr C kX21 vc6 eX6_workOut_uX6 0 (by decide) rfl eX6_workOut_f19 rfl dX6_workOut_23 ?_
      refine z_iload_n C dX6_workOut_26 rfl 0 rfl ?_
      obtain ⟨x15, s16, q_s16, hm⟩ := zBd_of hm
      refine z_cV (vd := false) (Cn := RX5) (k := 1) C 1 [.int x13] [] (c_X5_kind (zC_I C) (zC_st C)  q_s16) gX6_workOut_X5_kind (by decide +kernel) kX1 vc5 rfl rfl dX6_workOut_27 rfl ⟨Nat.le_of_ble_eq_true rfl, Nat.le_of_ble_eq_true rfl⟩ rfl (Nat.le_of_ble_eq_true rfl) ?_
      refine z_bipush (v := (8 : Int32)) C dX6_workOut_30 (by decide) ?_
      refine z_icmp_ne (tgt := 50) C dX6_workOut_32 (by decide) (fun c17 => ?_) (fun c17 => ?_)
      · have hm := zIf hm c17
        refine z_iconst (v := (0 : Int32)) C dX6_workOut_50 (by decide) ?_
        exact z_sub [1, 2, 0] rfl (w_X6_workOut_j51 C hQ ih _ _ _ _ hm)
      · have hm := zIt hm c17
        refine z_aload_n C dX6_workOut_35 rfl 1 rfl ?_
        refine z_getr C kX21 vc6 eX6_workOut_uX6 1 (by decide) rfl eX6_workOut_f23 rfl dX6_workOut_36 ?_
        refine z_iload_n C dX6_workOut_39 rfl 0 rfl ?_
        obtain ⟨x18, s19, q_s19, hm⟩ := zBd_of hm
        refine z_cV (vd := false) (Cn := RX4) (k := 6) C 1 [.int x13] [] (c_X4_isCircular (zC_I C) (zC_st C)  q_s19) gX6_workOut_X4_isCircular (by decide +kernel) kX6 vc4 rfl rfl dX6_workOut_40 rfl ⟨Nat.le_of_ble_eq_true rfl, Nat.le_of_ble_eq_true rfl⟩ rfl (Nat.le_of_ble_eq_true rfl) ?_
        refine z_if_eq (tgt := 50) C dX6_workOut_43 (by decide) (fun c20 => ?_) (fun c20 => ?_)
        · have hm := zIt hm c20
          refine z_iconst (v := (0 : Int32)) C dX6_workOut_50 (by decide) ?_
          exact z_sub [1, 2, 0] rfl (w_X6_workOut_j51 C hQ ih _ _ _ _ hm)
        · have hm := zIf hm c20
          refine z_iconst (v := (1 : Int32)) C dX6_workOut_46 (by decide) ?_
          refine z_goto (tgt := 51) C dX6_workOut_47 (by decide) ?_
          exact z_sub [1, 2, 0] rfl (w_X6_workOut_j51 C hQ ih _ _ _ _ hm)
set_option maxRecDepth 100000 in
set_option maxHeartbeats 4000000 in
theorem w_X6_workOut_e {h : zH} {ad : Nat → Nat} {G : zG} (C : zC h ad zLX 5 G cX6_workOut RX6 wsX6_workOut 6 139) {n : Nat} {r : Int32} {s9 : zS} (hQ : zQ h ad zLX G true (.inl r) s9 none) {v1 : Int32} (s : zS) (hm : m_X6_workOut n v1 s = some (r, s9)) : zV h ad zLX 5 G s 0 [(0, .ref (ad 21)), (1, .int v1)] [] := by
  rw [m_X6_workOut] at hm
  refine z_aload_n C dX6_workOut_0 rfl 0 rfl ?_
  refine z_iload_n C dX6_workOut_1 rfl 1 rfl ?_
  obtain ⟨s21, e_s21, hm⟩ := zLt_of hm
  refine z_put C kX21 vc6 eX6_workOut_uX6 tyX6_ok nmX6 5 (by decide) rfl eX6_workOut_f15 rfl rfl rfl e_s21 dX6_workOut_2 ?_
  refine z_iconst (v := (0 : Int32)) C dX6_workOut_5 (by decide) ?_
  refine z_istore_n (y := (0 : Int32)) (lv' := [(2, .int (0 : Int32)), (0, .ref (ad 21)), (1, .int v1)]) C dX6_workOut_6 rfl (by decide) rfl rfl ?_
  exact z_sub [1, 0] rfl (w_X6_workOut_j7 C hQ  _ _ _ hm)
set_option maxRecDepth 100000 in
set_option maxHeartbeats 4000000 in
theorem c_X6_workOut {h : zH} {ad : Nat → Nat} (hI : zI ad zLX.length) (hst : h.1.stackTraces = false) {n : Nat} {v1 : Int32} {s s9 : zS} {r : Int32} (hm : m_X6_workOut n v1 s = some (r, s9)) : zMR h ad zLX true yX6_workOut wsX6_workOut 6 139 [.ref (ad 21), .int v1] s (.inl r) s9 :=
  z_start (cc := cX6_workOut) (nL := 5) (ret := none) (own := RX6) (by decide +kernel) rfl rfl hI hst (Nat.le_of_ble_eq_true rfl) (fun G C hQ => w_X6_workOut_e C hQ _ hm)
set_option maxRecDepth 100000 in
theorem eX6b_of_uX6 : ∀ w ∈ wsX60, w ∈ wsX6_of := by decide +kernel
set_option maxRecDepth 100000 in
theorem eX6b_of_f9 : Cond.fieldLink RX6 9 RX6 (TX6 4).2.1 (TX6 4).2.2.1 ∈ wsX6_of := by decide +kernel
set_option maxRecDepth 100000 in
theorem eX6b_of_tX7_at : Cond.static yX7_at ∈ wsX6_of := by decide +kernel
set_option maxRecDepth 100000 in
theorem eX6b_of_iX7_at : Cond.initialized yX7_at.cls ∈ wsX6_of := by decide +kernel
set_option maxRecDepth 100000 in
theorem eX6b_of_n35 : (RX6, 35, yX7_at, "TaxEngine") ∈ zN := by decide +kernel
set_option maxRecDepth 100000 in
set_option maxHeartbeats 4000000 in
theorem w_X6b_of_e {h : zH} {ad : Nat → Nat} {G : zG} (C : zC h ad zLX 2 G cX6_of RX6 wsX6_of 1 21) {n : Nat} {r : Int32} {s9 : zS} (hQ : zQ h ad zLX G false (.inl r) s9 (some .int)) {v1 : Int32} (s : zS) (hm : m_X6b_of n v1 s = some (r, s9)) : zV h ad zLX 2 G s 0 [(0, .ref (ad 23)), (1, .int v1)] [] := by
  rw [m_X6b_of] at hm
  refine z_aload_n C dX6_of_0 rfl 0 rfl ?_
  refine z_getr C kX23 vc6 eX6b_of_uX6 4 (by decide) rfl eX6b_of_f9 rfl dX6_of_1 ?_
  refine z_iload_n C dX6_of_4 rfl 1 rfl ?_
  obtain ⟨x1, s2, q_s2, hm⟩ := zBd_of hm
  refine z_cSN (vd := false) (host := "TaxEngine") C 2 [.ref (ad 24), .int v1] [] (c_X7_at (zC_I C) (zC_st C) kX24 q_s2) gX6_of_X7_at_n35 eX6b_of_n35 eX6b_of_tX7_at eX6b_of_iX7_at (by decide +kernel) rfl dX6_of_5 rfl ⟨Nat.le_of_ble_eq_true rfl, Nat.le_of_ble_eq_true rfl⟩ rfl (Nat.le_of_ble_eq_true rfl) ?_
  exact z_iret0 C hQ (zRt_of hm).1 (zRt_of hm).2 dX6_of_8
set_option maxRecDepth 100000 in
set_option maxHeartbeats 4000000 in
theorem c_X6b_of {h : zH} {ad : Nat → Nat} (hI : zI ad zLX.length) (hst : h.1.stackTraces = false) {n : Nat} {v1 : Int32} {s s9 : zS} {r : Int32} (hm : m_X6b_of n v1 s = some (r, s9)) : zMR h ad zLX false yX6_of wsX6_of 1 21 [.ref (ad 23), .int v1] s (.inl r) s9 :=
  z_start (cc := cX6_of) (nL := 2) (ret := (some .int)) (own := RX6) (by decide +kernel) rfl rfl hI hst (Nat.le_of_ble_eq_true rfl) (fun G C hQ => w_X6b_of_e C hQ _ hm)
set_option maxRecDepth 100000 in
theorem eX6b_plain_uX6 : ∀ w ∈ wsX60, w ∈ wsX6_plain := by decide +kernel
set_option maxRecDepth 100000 in
theorem eX6b_plain_f19 : Cond.fieldLink RX6 19 RX6 (TX6 0).2.1 (TX6 0).2.2.1 ∈ wsX6_plain := by decide +kernel
set_option maxRecDepth 100000 in
theorem eX6b_plain_c85 : Cond.constant RX6 85 (1000000000 : Int32) ∈ wsX6_plain := by decide +kernel
set_option maxRecDepth 100000 in
theorem eX6b_plain_l86 : Cond.methodLink RX6 86 Lib.Math.min.name ∈ wsX6_plain := by decide +kernel
set_option maxRecDepth 100000 in
theorem eX6b_plain_stmin : Cond.static Lib.Math.min.name ∈ wsX6_plain := by decide +kernel
set_option maxRecDepth 100000 in
theorem eX6b_plain_im : Cond.initialized "java/lang/Math" ∈ wsX6_plain := by decide +kernel
set_option maxRecDepth 100000 in
theorem eX6b_plain_cmmin : Cond.code Lib.Math.min.name Lib.Math.min.code 2 (some .int) ∈ wsX6_plain := by decide +kernel
set_option maxRecDepth 100000 in
theorem eX6b_plain_l92 : Cond.methodLink RX6 92 Lib.Math.max.name ∈ wsX6_plain := by decide +kernel
set_option maxRecDepth 100000 in
theorem eX6b_plain_stmax : Cond.static Lib.Math.max.name ∈ wsX6_plain := by decide +kernel
set_option maxRecDepth 100000 in
theorem eX6b_plain_cmmax : Cond.code Lib.Math.max.name Lib.Math.max.code 2 (some .int) ∈ wsX6_plain := by decide +kernel
set_option maxRecDepth 100000 in
theorem eX6b_plain_tX7_thousandths : Cond.static yX7_thousandths ∈ wsX6_plain := by decide +kernel
set_option maxRecDepth 100000 in
theorem eX6b_plain_iX7_thousandths : Cond.initialized yX7_thousandths.cls ∈ wsX6_plain := by decide +kernel
set_option maxRecDepth 100000 in
theorem eX6b_plain_n95 : (RX6, 95, yX7_thousandths, "TaxEngine") ∈ zN := by decide +kernel
set_option maxRecDepth 100000 in
theorem eX6b_plain_f27 : Cond.fieldLink RX6 27 RX6 (TX6 2).2.1 (TX6 2).2.2.1 ∈ wsX6_plain := by decide +kernel
set_option maxRecDepth 100000 in
theorem eX6b_plain_f31 : Cond.fieldLink RX6 31 RX6 (TX6 3).2.1 (TX6 3).2.2.1 ∈ wsX6_plain := by decide +kernel
set_option maxRecDepth 100000 in
theorem eX6b_plain_f15 : Cond.fieldLink RX6 15 RX6 (TX6 5).2.1 (TX6 5).2.2.1 ∈ wsX6_plain := by decide +kernel
set_option maxRecDepth 100000 in
set_option maxHeartbeats 4000000 in
theorem w_X6b_plain_e {h : zH} {ad : Nat → Nat} {G : zG} (C : zC h ad zLX 4 G cX6_plain RX6 wsX6_plain 3 64) {n : Nat} {r : Int32} {s9 : zS} (hQ : zQ h ad zLX G false (.inl r) s9 (some .int)) {v1 : Int32} (s : zS) (hm : m_X6b_plain n v1 s = some (r, s9)) : zV h ad zLX 4 G s 0 [(0, .ref (ad 23)), (1, .int v1)] [] := by
  rw [m_X6b_plain] at hm
  refine z_aload_n C dX6_plain_0 rfl 0 rfl ?_
  refine z_aload_n C dX6_plain_1 rfl 0 rfl ?_
  refine z_getr C kX23 vc6 eX6b_plain_uX6 0 (by decide) rfl eX6b_plain_f19 rfl dX6_plain_2 ?_
  refine z_iload_n C dX6_plain_5 rfl 1 rfl ?_
  obtain ⟨x1, s2, q_s2, hm⟩ := zBd_of hm
  refine z_cV (vd := false) (Cn := RX5) (k := 1) C 1 [.int v1] [.ref (ad 23)] (c_X5_first (zC_I C) (zC_st C)  q_s2) gX6_plain_X5_first (by decide +kernel) kX1 vc5 rfl rfl dX6_plain_6 rfl ⟨Nat.le_of_ble_eq_true rfl, Nat.le_of_ble_eq_true rfl⟩ rfl (Nat.le_of_ble_eq_true rfl) ?_
  obtain ⟨x3, s4, q_s4, hm⟩ := zBd_of hm
  refine z_cV (vd := false) (Cn := RX6) (k := 23) C 1 [.int x1] [] (c_X6b_of (zC_I C) (zC_st C)  q_s4) gX6_plain_X6_of (by decide +kernel) kX23 vc6 rfl rfl dX6_plain_9 rfl ⟨Nat.le_of_ble_eq_true rfl, Nat.le_of_ble_eq_true rfl⟩ rfl (Nat.le_of_ble_eq_true rfl) ?_
  refine z_istore_n (y := x3) (lv' := [(2, .int x3), (0, .ref (ad 23)), (1, .int v1)]) C dX6_plain_12 rfl (by decide) rfl rfl ?_
  refine z_aload_n C dX6_plain_13 rfl 1 rfl ?_
  refine z_getr C kX23 vc6 eX6b_plain_uX6 0 (by decide) rfl eX6b_plain_f19 rfl dX6_plain_14 ?_
  refine z_iload_n C dX6_plain_17 rfl 2 rfl ?_
  obtain ⟨x5, s6, q_s6, hm⟩ := zBd_of hm
  refine z_cV (vd := false) (Cn := RX5) (k := 1) C 1 [.int v1] [] (c_X5_second (zC_I C) (zC_st C)  q_s6) gX6_plain_X5_second (by decide +kernel) kX1 vc5 rfl rfl dX6_plain_18 rfl ⟨Nat.le_of_ble_eq_true rfl, Nat.le_of_ble_eq_true rfl⟩ rfl (Nat.le_of_ble_eq_true rfl) ?_
  refine z_istore_n (y := x5) (lv' := [(3, .int x5), (2, .int x3), (0, .ref (ad 23)), (1, .int v1)]) C dX6_plain_21 rfl (by decide) rfl rfl ?_
  refine z_aload_n C dX6_plain_22 rfl 2 rfl ?_
  refine z_getr C kX23 vc6 eX6b_plain_uX6 0 (by decide) rfl eX6b_plain_f19 rfl dX6_plain_23 ?_
  refine z_iload_n C dX6_plain_26 rfl 3 rfl ?_
  obtain ⟨x7, s8, q_s8, hm⟩ := zBd_of hm
  refine z_cV (vd := false) (Cn := RX5) (k := 1) C 1 [.int v1] [] (c_X5_kind (zC_I C) (zC_st C)  q_s8) gX6_plain_X5_kind (by decide +kernel) kX1 vc5 rfl rfl dX6_plain_27 rfl ⟨Nat.le_of_ble_eq_true rfl, Nat.le_of_ble_eq_true rfl⟩ rfl (Nat.le_of_ble_eq_true rfl) ?_
  by_cases c9 : x7 = (1 : Int32)
  · have hm := zIt hm c9
    refine z_tableIn (off := 46) (tgt := 76) C dX6_plain_30 (by rw [c9]; decide) (by rw [c9]; decide) (by rw [c9]; decide) (by decide) ?_
    refine z_iload_n C dX6_plain_76 rfl 1 rfl ?_
    refine z_aload_n C dX6_plain_77 rfl 2 rfl ?_
    refine z_iload_n C dX6_plain_78 rfl 0 rfl ?_
    obtain ⟨x10, s11, q_s11, hm⟩ := zBd_of hm
    refine z_cV (vd := false) (Cn := RX6) (k := 23) C 1 [.int x5] [.int x3] (c_X6b_of (zC_I C) (zC_st C)  q_s11) gX6_plain_X6_of (by decide +kernel) kX23 vc6 rfl rfl dX6_plain_79 rfl ⟨Nat.le_of_ble_eq_true rfl, Nat.le_of_ble_eq_true rfl⟩ rfl (Nat.le_of_ble_eq_true rfl) ?_
    refine z_iadd C dX6_plain_82 ?_
    refine z_ldc (v := (1000000000 : Int32)) C eX6b_plain_c85 dX6_plain_83 ?_
    refine z_mmin C eX6b_plain_l86 eX6b_plain_stmin eX6b_plain_im eX6b_plain_cmmin (Nat.le_of_ble_eq_true rfl) (Nat.le_of_ble_eq_true rfl) dX6_plain_85 ?_
    exact z_iret0 C hQ (zRt_of hm).1 (zRt_of hm).2 dX6_plain_88
  have hm := zIf hm c9
  by_cases c12 : x7 = (2 : Int32)
  · have hm := zIt hm c12
    refine z_tableIn (off := 59) (tgt := 89) C dX6_plain_30 (by rw [c12]; decide) (by rw [c12]; decide) (by rw [c12]; decide) (by decide) ?_
    refine z_iload_n C dX6_plain_89 rfl 1 rfl ?_
    refine z_aload_n C dX6_plain_90 rfl 2 rfl ?_
    refine z_iload_n C dX6_plain_91 rfl 0 rfl ?_
    obtain ⟨x13, s14, q_s14, hm⟩ := zBd_of hm
    refine z_cV (vd := false) (Cn := RX6) (k := 23) C 1 [.int x5] [.int x3] (c_X6b_of (zC_I C) (zC_st C)  q_s14) gX6_plain_X6_of (by decide +kernel) kX23 vc6 rfl rfl dX6_plain_92 rfl ⟨Nat.le_of_ble_eq_true rfl, Nat.le_of_ble_eq_true rfl⟩ rfl (Nat.le_of_ble_eq_true rfl) ?_
    refine z_isub C dX6_plain_95 ?_
    refine z_iconst (v := (0 : Int32)) C dX6_plain_96 (by decide) ?_
    refine z_mmax C eX6b_plain_l92 eX6b_plain_stmax eX6b_plain_im eX6b_plain_cmmax (Nat.le_of_ble_eq_true rfl) (Nat.le_of_ble_eq_true rfl) dX6_plain_97 ?_
    exact z_iret0 C hQ (zRt_of hm).1 (zRt_of hm).2 dX6_plain_100
  have hm := zIf hm c12
  by_cases c15 : x7 = (3 : Int32)
  · have hm := zIt hm c15
    refine z_tableIn (off := 71) (tgt := 101) C dX6_plain_30 (by rw [c15]; decide) (by rw [c15]; decide) (by rw [c15]; decide) (by decide) ?_
    refine z_iload_n C dX6_plain_101 rfl 1 rfl ?_
    refine z_iload_n C dX6_plain_102 rfl 0 rfl ?_
    obtain ⟨x16, s17, q_s17, hm⟩ := zBd_of hm
    refine z_cSN (vd := false) (host := "TaxEngine") C 2 [.int x3, .int x5] [] (c_X7_thousandths (zC_I C) (zC_st C)  q_s17) gX6_plain_X7_thousandths_n95 eX6b_plain_n95 eX6b_plain_tX7_thousandths eX6b_plain_iX7_thousandths (by decide +kernel) rfl dX6_plain_103 rfl ⟨Nat.le_of_ble_eq_true rfl, Nat.le_of_ble_eq_true rfl⟩ rfl (Nat.le_of_ble_eq_true rfl) ?_
    exact z_iret0 C hQ (zRt_of hm).1 (zRt_of hm).2 dX6_plain_106
  have hm := zIf hm c15
  by_cases c18 : x7 = (4 : Int32)
  · have hm := zIt hm c18
    refine z_tableIn (off := 77) (tgt := 107) C dX6_plain_30 (by rw [c18]; decide) (by rw [c18]; decide) (by rw [c18]; decide) (by decide) ?_
    refine z_iload_n C dX6_plain_107 rfl 1 rfl ?_
    refine z_aload_n C dX6_plain_108 rfl 2 rfl ?_
    refine z_iload_n C dX6_plain_109 rfl 0 rfl ?_
    obtain ⟨x19, s20, q_s20, hm⟩ := zBd_of hm
    refine z_cV (vd := false) (Cn := RX6) (k := 23) C 1 [.int x5] [.int x3] (c_X6b_of (zC_I C) (zC_st C)  q_s20) gX6_plain_X6_of (by decide +kernel) kX23 vc6 rfl rfl dX6_plain_110 rfl ⟨Nat.le_of_ble_eq_true rfl, Nat.le_of_ble_eq_true rfl⟩ rfl (Nat.le_of_ble_eq_true rfl) ?_
    refine z_mmin C eX6b_plain_l86 eX6b_plain_stmin eX6b_plain_im eX6b_plain_cmmin (Nat.le_of_ble_eq_true rfl) (Nat.le_of_ble_eq_true rfl) dX6_plain_113 ?_
    exact z_iret0 C hQ (zRt_of hm).1 (zRt_of hm).2 dX6_plain_116
  have hm := zIf hm c18
  by_cases c21 : x7 = (5 : Int32)
  · have hm := zIt hm c21
    refine z_tableIn (off := 87) (tgt := 117) C dX6_plain_30 (by rw [c21]; decide) (by rw [c21]; decide) (by rw [c21]; decide) (by decide) ?_
    refine z_iload_n C dX6_plain_117 rfl 1 rfl ?_
    refine z_aload_n C dX6_plain_118 rfl 2 rfl ?_
    refine z_iload_n C dX6_plain_119 rfl 0 rfl ?_
    obtain ⟨x22, s23, q_s23, hm⟩ := zBd_of hm
    refine z_cV (vd := false) (Cn := RX6) (k := 23) C 1 [.int x5] [.int x3] (c_X6b_of (zC_I C) (zC_st C)  q_s23) gX6_plain_X6_of (by decide +kernel) kX23 vc6 rfl rfl dX6_plain_120 rfl ⟨Nat.le_of_ble_eq_true rfl, Nat.le_of_ble_eq_true rfl⟩ rfl (Nat.le_of_ble_eq_true rfl) ?_
    refine z_mmax C eX6b_plain_l92 eX6b_plain_stmax eX6b_plain_im eX6b_plain_cmmax (Nat.le_of_ble_eq_true rfl) (Nat.le_of_ble_eq_true rfl) dX6_plain_123 ?_
    exact z_iret0 C hQ (zRt_of hm).1 (zRt_of hm).2 dX6_plain_126
  have hm := zIf hm c21
  by_cases c24 : x7 = (6 : Int32)
  · have hm := zIt hm c24
    refine z_tableIn (off := 97) (tgt := 127) C dX6_plain_30 (by rw [c24]; decide) (by rw [c24]; decide) (by rw [c24]; decide) (by decide) ?_
    refine z_aload_n C dX6_plain_127 rfl 2 rfl ?_
    refine z_getr C kX23 vc6 eX6b_plain_uX6 2 (by decide) rfl eX6b_plain_f27 rfl dX6_plain_128 ?_
    refine z_iload_n C dX6_plain_131 rfl 1 rfl ?_
    obtain ⟨x25, s26, q_s26, hm⟩ := zBd_of hm
    refine z_cV (vd := false) (Cn := RX1) (k := 10) C 1 [.int x3] [] (c_X1_tax (zC_I C) (zC_st C)  q_s26) gX6_plain_X1_tax (by decide +kernel) kX10 vc1 rfl rfl dX6_plain_132 rfl ⟨Nat.le_of_ble_eq_true rfl, Nat.le_of_ble_eq_true rfl⟩ rfl (Nat.le_of_ble_eq_true rfl) ?_
    exact z_iret0 C hQ (zRt_of hm).1 (zRt_of hm).2 dX6_plain_135
  have hm := zIf hm c24
  by_cases c27 : x7 = (7 : Int32)
  · have hm := zIt hm c27
    refine z_tableIn (off := 106) (tgt := 136) C dX6_plain_30 (by rw [c27]; decide) (by rw [c27]; decide) (by rw [c27]; decide) (by decide) ?_
    refine z_iload_n C dX6_plain_136 rfl 1 rfl ?_
    refine z_aload_n C dX6_plain_137 rfl 2 rfl ?_
    refine z_getr C kX23 vc6 eX6b_plain_uX6 3 (by decide) rfl eX6b_plain_f31 rfl dX6_plain_138 ?_
    obtain ⟨x28, s29, q_s29, hm⟩ := zBd_of hm
    refine z_cV (vd := false) (Cn := RX0) (k := 13) C 0 [] [.int x3] (c_X0_total (zC_I C) (zC_st C)  q_s29) gX6_plain_X0_total (by decide +kernel) kX13 vc0 rfl rfl dX6_plain_141 rfl ⟨Nat.le_of_ble_eq_true rfl, Nat.le_of_ble_eq_true rfl⟩ rfl (Nat.le_of_ble_eq_true rfl) ?_
    refine z_mmin C eX6b_plain_l86 eX6b_plain_stmin eX6b_plain_im eX6b_plain_cmmin (Nat.le_of_ble_eq_true rfl) (Nat.le_of_ble_eq_true rfl) dX6_plain_144 ?_
    exact z_iret0 C hQ (zRt_of hm).1 (zRt_of hm).2 dX6_plain_147
  have hm := zIf hm c27
  by_cases c30 : x7 = (8 : Int32)
  · have hm := zIt hm c30
    refine z_tableIn (off := 77) (tgt := 107) C dX6_plain_30 (by rw [c30]; decide) (by rw [c30]; decide) (by rw [c30]; decide) (by decide) ?_
    refine z_iload_n C dX6_plain_107 rfl 1 rfl ?_
    refine z_aload_n C dX6_plain_108 rfl 2 rfl ?_
    refine z_iload_n C dX6_plain_109 rfl 0 rfl ?_
    obtain ⟨x31, s32, q_s32, hm⟩ := zBd_of hm
    refine z_cV (vd := false) (Cn := RX6) (k := 23) C 1 [.int x5] [.int x3] (c_X6b_of (zC_I C) (zC_st C)  q_s32) gX6_plain_X6_of (by decide +kernel) kX23 vc6 rfl rfl dX6_plain_110 rfl ⟨Nat.le_of_ble_eq_true rfl, Nat.le_of_ble_eq_true rfl⟩ rfl (Nat.le_of_ble_eq_true rfl) ?_
    refine z_mmin C eX6b_plain_l86 eX6b_plain_stmin eX6b_plain_im eX6b_plain_cmmin (Nat.le_of_ble_eq_true rfl) (Nat.le_of_ble_eq_true rfl) dX6_plain_113 ?_
    exact z_iret0 C hQ (zRt_of hm).1 (zRt_of hm).2 dX6_plain_116
  have hm := zIf hm c30
  have t_c9 := z_ne (n := 1) c9 (by decide)
  have t_c12 := z_ne (n := 2) c12 (by decide)
  have t_c15 := z_ne (n := 3) c15 (by decide)
  have t_c18 := z_ne (n := 4) c18 (by decide)
  have t_c21 := z_ne (n := 5) c21 (by decide)
  have t_c24 := z_ne (n := 6) c24 (by decide)
  have t_c27 := z_ne (n := 7) c27 (by decide)
  have t_c30 := z_ne (n := 8) c30 (by decide)
  refine z_tableOut (tgt := 148) C dX6_plain_30 (by omega) (by decide) ?_
  refine z_iload_n C dX6_plain_148 rfl 3 rfl ?_
  refine z_aload_n C dX6_plain_149 rfl 2 rfl ?_
  refine z_get C kX23 vc6 eX6b_plain_uX6 5 (by decide) rfl eX6b_plain_f15 rfl dX6_plain_150 ?_
  refine z_icmp_ne (tgt := 169) C dX6_plain_153 (by decide) (fun c33 => ?_) (fun c33 => ?_)
  · have hm := zIf hm c33
    refine z_aload_n C dX6_plain_169 rfl 2 rfl ?_
    refine z_getr C kX23 vc6 eX6b_plain_uX6 0 (by decide) rfl eX6b_plain_f19 rfl dX6_plain_170 ?_
    refine z_iload_n C dX6_plain_173 rfl 3 rfl ?_
    obtain ⟨x34, s35, q_s35, hm⟩ := zBd_of hm
    refine z_cV (vd := false) (Cn := RX5) (k := 1) C 1 [.int v1] [] (c_X5_given (zC_I C) (zC_st C)  q_s35) gX6_plain_X5_given (by decide +kernel) kX1 vc5 rfl rfl dX6_plain_174 rfl ⟨Nat.le_of_ble_eq_true rfl, Nat.le_of_ble_eq_true rfl⟩ rfl (Nat.le_of_ble_eq_true rfl) ?_
    exact z_iret0 C hQ (zRt_of hm).1 (zRt_of hm).2 dX6_plain_177
  · have hm := zIt hm c33
    refine z_aload_n C dX6_plain_156 rfl 2 rfl ?_
    refine z_getr C kX23 vc6 eX6b_plain_uX6 0 (by decide) rfl eX6b_plain_f19 rfl dX6_plain_157 ?_
    refine z_iload_n C dX6_plain_160 rfl 3 rfl ?_
    obtain ⟨x36, s37, q_s37, hm⟩ := zBd_of hm
    refine z_cV (vd := false) (Cn := RX5) (k := 1) C 1 [.int v1] [] (c_X5_given (zC_I C) (zC_st C)  q_s37) gX6_plain_X5_given (by decide +kernel) kX1 vc5 rfl rfl dX6_plain_161 rfl ⟨Nat.le_of_ble_eq_true rfl, Nat.le_of_ble_eq_true rfl⟩ rfl (Nat.le_of_ble_eq_true rfl) ?_
    refine z_iconst (v := (1 : Int32)) C dX6_plain_164 (by decide) ?_
    refine z_iadd C dX6_plain_165 ?_
    refine z_goto (tgt := 177) C dX6_plain_166 (by decide) ?_
    exact z_iret0 C hQ (zRt_of hm).1 (zRt_of hm).2 dX6_plain_177
set_option maxRecDepth 100000 in
set_option maxHeartbeats 4000000 in
theorem c_X6b_plain {h : zH} {ad : Nat → Nat} (hI : zI ad zLX.length) (hst : h.1.stackTraces = false) {n : Nat} {v1 : Int32} {s s9 : zS} {r : Int32} (hm : m_X6b_plain n v1 s = some (r, s9)) : zMR h ad zLX false yX6_plain wsX6_plain 3 64 [.ref (ad 23), .int v1] s (.inl r) s9 :=
  z_start (cc := cX6_plain) (nL := 4) (ret := (some .int)) (own := RX6) (by decide +kernel) rfl rfl hI hst (Nat.le_of_ble_eq_true rfl) (fun G C hQ => w_X6b_plain_e C hQ _ hm)
set_option maxRecDepth 100000 in
theorem eX6b_suppose_uX6 : ∀ w ∈ wsX60, w ∈ wsX6_suppose := by decide +kernel
set_option maxRecDepth 100000 in
theorem eX6b_suppose_f23 : Cond.fieldLink RX6 23 RX6 (TX6 1).2.1 (TX6 1).2.2.1 ∈ wsX6_suppose := by decide +kernel
set_option maxRecDepth 100000 in
theorem eX6b_suppose_f9 : Cond.fieldLink RX6 9 RX6 (TX6 4).2.1 (TX6 4).2.2.1 ∈ wsX6_suppose := by decide +kernel
set_option maxRecDepth 100000 in
theorem eX6b_suppose_tX7_put : Cond.static yX7_put ∈ wsX6_suppose := by decide +kernel
set_option maxRecDepth 100000 in
theorem eX6b_suppose_iX7_put : Cond.initialized yX7_put.cls ∈ wsX6_suppose := by decide +kernel
set_option maxRecDepth 100000 in
theorem eX6b_suppose_n60 : (RX6, 60, yX7_put, "TaxEngine") ∈ zN := by decide +kernel
set_option maxRecDepth 100000 in
set_option maxHeartbeats 4000000 in
theorem w_X6b_suppose_j38 {h : zH} {ad : Nat → Nat} {G : zG} (C : zC h ad zLX 7 G cX6_suppose RX6 wsX6_suppose 4 87) {n : Nat} {r : Int32} {s9 : zS} (hQ : zQ h ad zLX G true (.inl r) s9 none) : ∀ (f : Nat) (v4 : Int32) (v5 : Int32) (s : zS), m_X6b_suppose_j38 n f v4 v5 s = some (r, s9) → zV h ad zLX 7 G s 38 [(0, .ref (ad 23)), (4, .int v4), (5, .int v5)] [] := by
  intro f
  induction f with
  | zero => intro v4 v5 s hm; simp [m_X6b_suppose_j38] at hm
  | succ f ih =>
    intro v4 v5 s hm
    rw [m_X6b_suppose_j38] at hm
    refine z_iload C dX6_suppose_38 2 rfl ?_
    refine z_iload C dX6_suppose_40 1 rfl ?_
    refine z_icmp_ge (tgt := 77) C dX6_suppose_42 (by decide) (fun c1 => ?_) (fun c1 => ?_)
    · have hm := zIt hm c1
      exact z_vret0 C hQ (zRt_of hm).1 (zRt_of hm).2 dX6_suppose_77
    · have hm := zIf hm c1
      refine z_aload_n C dX6_suppose_45 rfl 0 rfl ?_
      refine z_getr C kX23 vc6 eX6b_suppose_uX6 1 (by decide) rfl eX6b_suppose_f23 rfl dX6_suppose_46 ?_
      refine z_iload C dX6_suppose_49 2 rfl ?_
      obtain ⟨x2, s3, q_s3, hm⟩ := zBd_of hm
      refine z_cV (vd := false) (Cn := RX4) (k := 6) C 1 [.int v5] [] (c_X4_lineAt (zC_I C) (zC_st C)  q_s3) gX6_suppose_X4_lineAt (by decide +kernel) kX6 vc4 rfl rfl dX6_suppose_51 rfl ⟨Nat.le_of_ble_eq_true rfl, Nat.le_of_ble_eq_true rfl⟩ rfl (Nat.le_of_ble_eq_true rfl) ?_
      refine z_istore (y := x2) (lv' := [(6, .int x2), (0, .ref (ad 23)), (4, .int v4), (5, .int v5)]) C dX6_suppose_54 (by decide) rfl rfl ?_
      refine z_aload_n C dX6_suppose_56 rfl 1 rfl ?_
      refine z_getr C kX23 vc6 eX6b_suppose_uX6 4 (by decide) rfl eX6b_suppose_f9 rfl dX6_suppose_57 ?_
      refine z_iload C dX6_suppose_60 0 rfl ?_
      refine z_aload_n C dX6_suppose_62 rfl 1 rfl ?_
      refine z_iload C dX6_suppose_63 0 rfl ?_
      obtain ⟨x4, s5, q_s5, hm⟩ := zBd_of hm
      refine z_cV (vd := false) (Cn := RX6) (k := 23) C 1 [.int x2] [.int x2, .ref (ad 24)] (c_X6b_plain (zC_I C) (zC_st C)  q_s5) gX6_suppose_X6_plain (by decide +kernel) kX23 vc6 rfl rfl dX6_suppose_65 rfl ⟨Nat.le_of_ble_eq_true rfl, Nat.le_of_ble_eq_true rfl⟩ rfl (Nat.le_of_ble_eq_true rfl) ?_
      obtain ⟨x6, s7, q_s7, hm⟩ := zBd_of hm
      refine z_cSN (vd := true) (host := "TaxEngine") C 3 [.ref (ad 24), .int x2, .int x4] [] (c_X7_put (zC_I C) (zC_st C) kX24 q_s7) gX6_suppose_X7_put_n60 eX6b_suppose_n60 eX6b_suppose_tX7_put eX6b_suppose_iX7_put (by decide +kernel) rfl dX6_suppose_68 rfl ⟨Nat.le_of_ble_eq_true rfl, Nat.le_of_ble_eq_true rfl⟩ rfl (Nat.le_of_ble_eq_true rfl) ?_
      obtain ⟨x8, e_x8, hm⟩ := zLt_of hm
      refine z_iinc (j := 3) (v := x8) (d := (1 : Int32)) (lv' := [(5, .int x8), (6, .int x2), (0, .ref (ad 23)), (4, .int v4)]) C dX6_suppose_71 rfl (by decide) e_x8 (by decide) rfl ?_
      refine z_goto (tgt := 38) C dX6_suppose_74 (by decide) ?_
      exact z_sub [2, 3, 0] rfl (ih _ _ _ hm)
set_option maxRecDepth 100000 in
set_option maxHeartbeats 4000000 in
theorem w_X6b_suppose_e {h : zH} {ad : Nat → Nat} {G : zG} (C : zC h ad zLX 7 G cX6_suppose RX6 wsX6_suppose 4 87) {n : Nat} {r : Int32} {s9 : zS} (hQ : zQ h ad zLX G true (.inl r) s9 none) {v1 : Int32} {v2 : Int32} (s : zS) (hm : m_X6b_suppose n v1 v2 s = some (r, s9)) : zV h ad zLX 7 G s 0 [(0, .ref (ad 23)), (1, .int v1), (2, .int v2)] [] := by
  rw [m_X6b_suppose] at hm
  refine z_aload_n C dX6_suppose_0 rfl 0 rfl ?_
  refine z_getr C kX23 vc6 eX6b_suppose_uX6 1 (by decide) rfl eX6b_suppose_f23 rfl dX6_suppose_1 ?_
  refine z_iload_n C dX6_suppose_4 rfl 1 rfl ?_
  obtain ⟨x9, s10, q_s10, hm⟩ := zBd_of hm
  refine z_cV (vd := false) (Cn := RX4) (k := 6) C 1 [.int v1] [] (c_X4_lineAt (zC_I C) (zC_st C)  q_s10) gX6_suppose_X4_lineAt (by decide +kernel) kX6 vc4 rfl rfl dX6_suppose_5 rfl ⟨Nat.le_of_ble_eq_true rfl, Nat.le_of_ble_eq_true rfl⟩ rfl (Nat.le_of_ble_eq_true rfl) ?_
  refine z_istore_n (y := x9) (lv' := [(3, .int x9), (0, .ref (ad 23)), (1, .int v1), (2, .int v2)]) C dX6_suppose_8 rfl (by decide) rfl rfl ?_
  refine z_aload_n C dX6_suppose_9 rfl 1 rfl ?_
  refine z_getr C kX23 vc6 eX6b_suppose_uX6 4 (by decide) rfl eX6b_suppose_f9 rfl dX6_suppose_10 ?_
  refine z_iload_n C dX6_suppose_13 rfl 0 rfl ?_
  refine z_iload_n C dX6_suppose_14 rfl 3 rfl ?_
  obtain ⟨x11, s12, q_s12, hm⟩ := zBd_of hm
  refine z_cSN (vd := true) (host := "TaxEngine") C 3 [.ref (ad 24), .int x9, .int v2] [] (c_X7_put (zC_I C) (zC_st C) kX24 q_s12) gX6_suppose_X7_put_n60 eX6b_suppose_n60 eX6b_suppose_tX7_put eX6b_suppose_iX7_put (by decide +kernel) rfl dX6_suppose_15 rfl ⟨Nat.le_of_ble_eq_true rfl, Nat.le_of_ble_eq_true rfl⟩ rfl (Nat.le_of_ble_eq_true rfl) ?_
  refine z_iload_n C dX6_suppose_18 rfl 2 rfl ?_
  refine z_aload_n C dX6_suppose_19 rfl 1 rfl ?_
  refine z_getr C kX23 vc6 eX6b_suppose_uX6 1 (by decide) rfl eX6b_suppose_f23 rfl dX6_suppose_20 ?_
  refine z_iload_n C dX6_suppose_23 rfl 0 rfl ?_
  obtain ⟨x13, s14, q_s14, hm⟩ := zBd_of hm
  refine z_cV (vd := false) (Cn := RX4) (k := 6) C 1 [.int x9] [.int v1] (c_X4_groupOf (zC_I C) (zC_st C)  q_s14) gX6_suppose_X4_groupOf (by decide +kernel) kX6 vc4 rfl rfl dX6_suppose_24 rfl ⟨Nat.le_of_ble_eq_true rfl, Nat.le_of_ble_eq_true rfl⟩ rfl (Nat.le_of_ble_eq_true rfl) ?_
  obtain ⟨x15, s16, q_s16, hm⟩ := zBd_of hm
  refine z_cS (vd := false) C 1 [.int x13] [.int v1] (c_J6_bitCount_0f7a4 (zC_I C) (zC_st C)  q_s16) gX6_suppose_J6_bitCount_0f7a4 (by decide +kernel) rfl dX6_suppose_27 rfl ⟨Nat.le_of_ble_eq_true rfl, Nat.le_of_ble_eq_true rfl⟩ rfl (Nat.le_of_ble_eq_true rfl) ?_
  refine z_iadd C dX6_suppose_30 ?_
  obtain ⟨x17, e_x17, hm⟩ := zLt_of hm
  refine z_istore (y := x17) (lv' := [(4, .int x17), (3, .int x9), (0, .ref (ad 23)), (1, .int v1), (2, .int v2)]) C dX6_suppose_31 (by decide) e_x17 rfl ?_
  refine z_iload_n C dX6_suppose_33 rfl 3 rfl ?_
  refine z_iconst (v := (1 : Int32)) C dX6_suppose_34 (by decide) ?_
  refine z_iadd C dX6_suppose_35 ?_
  obtain ⟨x18, e_x18, hm⟩ := zLt_of hm
  refine z_istore (y := x18) (lv' := [(5, .int x18), (4, .int x17), (3, .int x9), (0, .ref (ad 23)), (1, .int v1), (2, .int v2)]) C dX6_suppose_36 (by decide) e_x18 rfl ?_
  exact z_sub [3, 1, 0] rfl (w_X6b_suppose_j38 C hQ  _ _ _ _ hm)
set_option maxRecDepth 100000 in
set_option maxHeartbeats 4000000 in
theorem c_X6b_suppose {h : zH} {ad : Nat → Nat} (hI : zI ad zLX.length) (hst : h.1.stackTraces = false) {n : Nat} {v1 : Int32} {v2 : Int32} {s s9 : zS} {r : Int32} (hm : m_X6b_suppose n v1 v2 s = some (r, s9)) : zMR h ad zLX true yX6_suppose wsX6_suppose 4 87 [.ref (ad 23), .int v1, .int v2] s (.inl r) s9 :=
  z_start (cc := cX6_suppose) (nL := 7) (ret := none) (own := RX6) (by decide +kernel) rfl rfl hI hst (Nat.le_of_ble_eq_true rfl) (fun G C hQ => w_X6b_suppose_e C hQ _ hm)
set_option maxRecDepth 100000 in
theorem eX6b_greatest_uX6 : ∀ w ∈ wsX60, w ∈ wsX6_greatest := by decide +kernel
set_option maxRecDepth 100000 in
theorem eX6b_greatest_f19 : Cond.fieldLink RX6 19 RX6 (TX6 0).2.1 (TX6 0).2.2.1 ∈ wsX6_greatest := by decide +kernel
set_option maxRecDepth 100000 in
theorem eX6b_greatest_f23 : Cond.fieldLink RX6 23 RX6 (TX6 1).2.1 (TX6 1).2.2.1 ∈ wsX6_greatest := by decide +kernel
set_option maxRecDepth 100000 in
set_option maxHeartbeats 4000000 in
theorem w_X6b_greatest_j28 {h : zH} {ad : Nat → Nat} {G : zG} (C : zC h ad zLX 7 G cX6_greatest RX6 wsX6_greatest 5 113) {n : Nat} {r : Int32} {s9 : zS} (hQ : zQ h ad zLX G false (.inl r) s9 (some .int)) : ∀ (f : Nat) (v1 : Int32) (v2 : Int32) (v3 : Int32) (v4 : Int32) (v5 : Int32) (s : zS), m_X6b_greatest_j28 n f v1 v2 v3 v4 v5 s = some (r, s9) → zV h ad zLX 7 G s 28 [(0, .ref (ad 23)), (1, .int v1), (2, .int v2), (3, .int v3), (4, .int v4), (5, .int v5)] [] := by
  intro f
  induction f with
  | zero => intro v1 v2 v3 v4 v5 s hm; simp [m_X6b_greatest_j28] at hm
  | succ f ih =>
    intro v1 v2 v3 v4 v5 s hm
    rw [m_X6b_greatest_j28] at hm
    refine z_iload C dX6_greatest_28 5 rfl ?_
    refine z_bipush (v := (31 : Int32)) C dX6_greatest_30 (by decide) ?_
    refine z_icmp_ge (tgt := 95) C dX6_greatest_32 (by decide) (fun c1 => ?_) (fun c1 => ?_)
    · have hm := zIt hm c1
      refine z_iload_n C dX6_greatest_95 rfl 3 rfl ?_
      exact z_iret0 C hQ (zRt_of hm).1 (zRt_of hm).2 dX6_greatest_96
    · have hm := zIf hm c1
      refine z_iload_n C dX6_greatest_35 rfl 3 rfl ?_
      refine z_iload C dX6_greatest_36 4 rfl ?_
      refine z_icmp_ge (tgt := 95) C dX6_greatest_38 (by decide) (fun c2 => ?_) (fun c2 => ?_)
      · have hm := zIt hm c2
        refine z_iload_n C dX6_greatest_95 rfl 3 rfl ?_
        exact z_iret0 C hQ (zRt_of hm).1 (zRt_of hm).2 dX6_greatest_96
      · have hm := zIf hm c2
        refine z_iload_n C dX6_greatest_41 rfl 3 rfl ?_
        refine z_iload C dX6_greatest_42 4 rfl ?_
        refine z_iload_n C dX6_greatest_44 rfl 3 rfl ?_
        refine z_isub C dX6_greatest_45 ?_
        refine z_iconst (v := (1 : Int32)) C dX6_greatest_46 (by decide) ?_
        refine z_iadd C dX6_greatest_47 ?_
        refine z_iconst (v := (2 : Int32)) C dX6_greatest_48 (by decide) ?_
        refine z_idiv C dX6_greatest_49 (by decide) ?_
        refine z_iadd C dX6_greatest_50 ?_
        obtain ⟨x3, e_x3, hm⟩ := zLt_of hm
        refine z_istore (y := x3) (lv' := [(6, .int x3), (0, .ref (ad 23)), (1, .int v1), (2, .int v2), (3, .int v3), (4, .int v4), (5, .int v5)]) C dX6_greatest_51 (by decide) e_x3 rfl ?_
        refine z_aload_n C dX6_greatest_53 rfl 1 rfl ?_
        refine z_iload_n C dX6_greatest_54 rfl 2 rfl ?_
        refine z_iload C dX6_greatest_55 0 rfl ?_
        obtain ⟨x4, s5, q_s5, hm⟩ := zBd_of hm
        refine z_cV (vd := true) (Cn := RX6) (k := 23) C 2 [.int v1, .int x3] [] (c_X6b_suppose (zC_I C) (zC_st C)  q_s5) gX6_greatest_X6_suppose (by decide +kernel) kX23 vc6 rfl rfl dX6_greatest_57 rfl ⟨Nat.le_of_ble_eq_true rfl, Nat.le_of_ble_eq_true rfl⟩ rfl (Nat.le_of_ble_eq_true rfl) ?_
        refine z_iload C dX6_greatest_60 0 rfl ?_
        refine z_aload_n C dX6_greatest_62 rfl 1 rfl ?_
        refine z_aload_n C dX6_greatest_63 rfl 1 rfl ?_
        refine z_getr C kX23 vc6 eX6b_greatest_uX6 0 (by decide) rfl eX6b_greatest_f19 rfl dX6_greatest_64 ?_
        refine z_iload_n C dX6_greatest_67 rfl 3 rfl ?_
        obtain ⟨x6, s7, q_s7, hm⟩ := zBd_of hm
        refine z_cV (vd := false) (Cn := RX5) (k := 1) C 1 [.int v2] [.ref (ad 23), .int x3] (c_X5_second (zC_I C) (zC_st C)  q_s7) gX6_greatest_X5_second (by decide +kernel) kX1 vc5 rfl rfl dX6_greatest_68 rfl ⟨Nat.le_of_ble_eq_true rfl, Nat.le_of_ble_eq_true rfl⟩ rfl (Nat.le_of_ble_eq_true rfl) ?_
        obtain ⟨x8, s9, q_s9, hm⟩ := zBd_of hm
        refine z_cV (vd := false) (Cn := RX6) (k := 23) C 1 [.int x6] [.int x3] (c_X6b_of (zC_I C) (zC_st C)  q_s9) gX6_greatest_X6_of (by decide +kernel) kX23 vc6 rfl rfl dX6_greatest_71 rfl ⟨Nat.le_of_ble_eq_true rfl, Nat.le_of_ble_eq_true rfl⟩ rfl (Nat.le_of_ble_eq_true rfl) ?_
        refine z_icmp_gt (tgt := 83) C dX6_greatest_74 (by decide) (fun c10 => ?_) (fun c10 => ?_)
        · have hm := zIt hm c10
          refine z_iload C dX6_greatest_83 0 rfl ?_
          refine z_iconst (v := (1 : Int32)) C dX6_greatest_85 (by decide) ?_
          refine z_isub C dX6_greatest_86 ?_
          obtain ⟨x11, e_x11, hm⟩ := zLt_of hm
          refine z_istore (y := x11) (lv' := [(4, .int x11), (6, .int x3), (0, .ref (ad 23)), (1, .int v1), (2, .int v2), (3, .int v3), (5, .int v5)]) C dX6_greatest_87 (by decide) e_x11 rfl ?_
          obtain ⟨x12, e_x12, hm⟩ := zLt_of hm
          refine z_iinc (j := 6) (v := x12) (d := (1 : Int32)) (lv' := [(5, .int x12), (4, .int x11), (6, .int x3), (0, .ref (ad 23)), (1, .int v1), (2, .int v2), (3, .int v3)]) C dX6_greatest_89 rfl (by decide) e_x12 (by decide) rfl ?_
          refine z_goto (tgt := 28) C dX6_greatest_92 (by decide) ?_
          exact z_sub [3, 4, 5, 6, 1, 0] rfl (ih _ _ _ _ _ _ hm)
        · have hm := zIf hm c10
          refine z_iload C dX6_greatest_77 0 rfl ?_
          refine z_istore_n (y := x3) (lv' := [(3, .int x3), (6, .int x3), (0, .ref (ad 23)), (1, .int v1), (2, .int v2), (4, .int v4), (5, .int v5)]) C dX6_greatest_79 rfl (by decide) rfl rfl ?_
          refine z_goto (tgt := 89) C dX6_greatest_80 (by decide) ?_
          obtain ⟨x13, e_x13, hm⟩ := zLt_of hm
          refine z_iinc (j := 6) (v := x13) (d := (1 : Int32)) (lv' := [(5, .int x13), (3, .int x3), (6, .int x3), (0, .ref (ad 23)), (1, .int v1), (2, .int v2), (4, .int v4)]) C dX6_greatest_89 rfl (by decide) e_x13 (by decide) rfl ?_
          refine z_goto (tgt := 28) C dX6_greatest_92 (by decide) ?_
          exact z_sub [3, 4, 5, 1, 6, 0] rfl (ih _ _ _ _ _ _ hm)
set_option maxRecDepth 100000 in
set_option maxHeartbeats 4000000 in
theorem w_X6b_greatest_e {h : zH} {ad : Nat → Nat} {G : zG} (C : zC h ad zLX 7 G cX6_greatest RX6 wsX6_greatest 5 113) {n : Nat} {r : Int32} {s9 : zS} (hQ : zQ h ad zLX G false (.inl r) s9 (some .int)) {v1 : Int32} (s : zS) (hm : m_X6b_greatest n v1 s = some (r, s9)) : zV h ad zLX 7 G s 0 [(0, .ref (ad 23)), (1, .int v1)] [] := by
  rw [m_X6b_greatest] at hm
  refine z_aload_n C dX6_greatest_0 rfl 0 rfl ?_
  refine z_getr C kX23 vc6 eX6b_greatest_uX6 1 (by decide) rfl eX6b_greatest_f23 rfl dX6_greatest_1 ?_
  refine z_iload_n C dX6_greatest_4 rfl 1 rfl ?_
  obtain ⟨x14, s15, q_s15, hm⟩ := zBd_of hm
  refine z_cV (vd := false) (Cn := RX4) (k := 6) C 1 [.int v1] [] (c_X4_lineAt (zC_I C) (zC_st C)  q_s15) gX6_greatest_X4_lineAt (by decide +kernel) kX6 vc4 rfl rfl dX6_greatest_5 rfl ⟨Nat.le_of_ble_eq_true rfl, Nat.le_of_ble_eq_true rfl⟩ rfl (Nat.le_of_ble_eq_true rfl) ?_
  refine z_istore_n (y := x14) (lv' := [(2, .int x14), (0, .ref (ad 23)), (1, .int v1)]) C dX6_greatest_8 rfl (by decide) rfl rfl ?_
  refine z_iconst (v := (0 : Int32)) C dX6_greatest_9 (by decide) ?_
  refine z_istore_n (y := (0 : Int32)) (lv' := [(3, .int (0 : Int32)), (2, .int x14), (0, .ref (ad 23)), (1, .int v1)]) C dX6_greatest_10 rfl (by decide) rfl rfl ?_
  refine z_aload_n C dX6_greatest_11 rfl 2 rfl ?_
  refine z_aload_n C dX6_greatest_12 rfl 2 rfl ?_
  refine z_getr C kX23 vc6 eX6b_greatest_uX6 0 (by decide) rfl eX6b_greatest_f19 rfl dX6_greatest_13 ?_
  refine z_iload_n C dX6_greatest_16 rfl 1 rfl ?_
  obtain ⟨x16, s17, q_s17, hm⟩ := zBd_of hm
  refine z_cV (vd := false) (Cn := RX5) (k := 1) C 1 [.int x14] [.ref (ad 23)] (c_X5_first (zC_I C) (zC_st C)  q_s17) gX6_greatest_X5_first (by decide +kernel) kX1 vc5 rfl rfl dX6_greatest_17 rfl ⟨Nat.le_of_ble_eq_true rfl, Nat.le_of_ble_eq_true rfl⟩ rfl (Nat.le_of_ble_eq_true rfl) ?_
  obtain ⟨x18, s19, q_s19, hm⟩ := zBd_of hm
  refine z_cV (vd := false) (Cn := RX6) (k := 23) C 1 [.int x16] [] (c_X6b_of (zC_I C) (zC_st C)  q_s19) gX6_greatest_X6_of (by decide +kernel) kX23 vc6 rfl rfl dX6_greatest_20 rfl ⟨Nat.le_of_ble_eq_true rfl, Nat.le_of_ble_eq_true rfl⟩ rfl (Nat.le_of_ble_eq_true rfl) ?_
  refine z_istore (y := x18) (lv' := [(4, .int x18), (3, .int (0 : Int32)), (2, .int x14), (0, .ref (ad 23)), (1, .int v1)]) C dX6_greatest_23 (by decide) rfl rfl ?_
  refine z_iconst (v := (0 : Int32)) C dX6_greatest_25 (by decide) ?_
  refine z_istore (y := (0 : Int32)) (lv' := [(5, .int (0 : Int32)), (4, .int x18), (3, .int (0 : Int32)), (2, .int x14), (0, .ref (ad 23)), (1, .int v1)]) C dX6_greatest_26 (by decide) rfl rfl ?_
  exact z_sub [4, 5, 3, 2, 1, 0] rfl (w_X6b_greatest_j28 C hQ  _ _ _ _ _ _ _ hm)
set_option maxRecDepth 100000 in
set_option maxHeartbeats 4000000 in
theorem c_X6b_greatest {h : zH} {ad : Nat → Nat} (hI : zI ad zLX.length) (hst : h.1.stackTraces = false) {n : Nat} {v1 : Int32} {s s9 : zS} {r : Int32} (hm : m_X6b_greatest n v1 s = some (r, s9)) : zMR h ad zLX false yX6_greatest wsX6_greatest 5 113 [.ref (ad 23), .int v1] s (.inl r) s9 :=
  z_start (cc := cX6_greatest) (nL := 7) (ret := (some .int)) (own := RX6) (by decide +kernel) rfl rfl hI hst (Nat.le_of_ble_eq_true rfl) (fun G C hQ => w_X6b_greatest_e C hQ _ hm)
set_option maxRecDepth 100000 in
theorem eX6b_workOut_uX6 : ∀ w ∈ wsX60, w ∈ wsX6_workOut := by decide +kernel
set_option maxRecDepth 100000 in
theorem eX6b_workOut_f9 : Cond.fieldLink RX6 9 RX6 (TX6 4).2.1 (TX6 4).2.2.1 ∈ wsX6_workOut := by decide +kernel
set_option maxRecDepth 100000 in
theorem eX6b_workOut_tX7_put : Cond.static yX7_put ∈ wsX6_workOut := by decide +kernel
set_option maxRecDepth 100000 in
theorem eX6b_workOut_iX7_put : Cond.initialized yX7_put.cls ∈ wsX6_workOut := by decide +kernel
set_option maxRecDepth 100000 in
theorem eX6b_workOut_n60 : (RX6, 60, yX7_put, "TaxEngine") ∈ zN := by decide +kernel
set_option maxRecDepth 100000 in
theorem eX6b_workOut_f23 : Cond.fieldLink RX6 23 RX6 (TX6 1).2.1 (TX6 1).2.2.1 ∈ wsX6_workOut := by decide +kernel
set_option maxRecDepth 100000 in
theorem eX6b_workOut_f19 : Cond.fieldLink RX6 19 RX6 (TX6 0).2.1 (TX6 0).2.2.1 ∈ wsX6_workOut := by decide +kernel
set_option maxRecDepth 100000 in
theorem eX6b_workOut_f15 : Cond.fieldLink RX6 15 RX6 (TX6 5).2.1 (TX6 5).2.2.1 ∈ wsX6_workOut := by decide +kernel
set_option maxRecDepth 100000 in
set_option maxHeartbeats 4000000 in
theorem w_X6b_workOut_j51 {h : zH} {ad : Nat → Nat} {G : zG} (C : zC h ad zLX 5 G cX6_workOut RX6 wsX6_workOut 6 139) {n : Nat} {r : Int32} {s9 : zS} (hQ : zQ h ad zLX G true (.inl r) s9 none) {rec7 : Int32 → zS → Option (Int32 × zS)} (hrec7 : ∀ (v2 : Int32) (s : zS), rec7 v2 s = some (r, s9) → zV h ad zLX 5 G s 7 [(0, .ref (ad 23)), (2, .int v2)] []) (v2 : Int32) (v3 : Int32) (t0 : Int32) (s : zS) (hm : m_X6b_workOut_j51 rec7 n v2 v3 t0 s = some (r, s9)) : zV h ad zLX 5 G s 51 [(0, .ref (ad 23)), (2, .int v2), (3, .int v3)] [.int t0] := by
  rw [m_X6b_workOut_j51] at hm
  refine z_istore (y := t0) (lv' := [(4, .int t0), (0, .ref (ad 23)), (2, .int v2), (3, .int v3)]) C dX6_workOut_51 (by decide) rfl rfl ?_
  refine z_aload_n C dX6_workOut_53 rfl 1 rfl ?_
  refine z_getr C kX23 vc6 eX6b_workOut_uX6 4 (by decide) rfl eX6b_workOut_f9 rfl dX6_workOut_54 ?_
  refine z_iload_n C dX6_workOut_57 rfl 3 rfl ?_
  refine z_iload C dX6_workOut_58 0 rfl ?_
  refine z_if_eq (tgt := 71) C dX6_workOut_60 (by decide) (fun c1 => ?_) (fun c1 => ?_)
  · have hm := zIt hm c1
    refine z_aload_n C dX6_workOut_71 rfl 1 rfl ?_
    refine z_iload_n C dX6_workOut_72 rfl 3 rfl ?_
    obtain ⟨x2, s3, q_s3, hm⟩ := zBd_of hm
    refine z_cV (vd := false) (Cn := RX6) (k := 23) C 1 [.int v3] [.int v3, .ref (ad 24)] (c_X6b_plain (zC_I C) (zC_st C)  q_s3) gX6_workOut_X6_plain (by decide +kernel) kX23 vc6 rfl rfl dX6_workOut_73 rfl ⟨Nat.le_of_ble_eq_true rfl, Nat.le_of_ble_eq_true rfl⟩ rfl (Nat.le_of_ble_eq_true rfl) ?_
    obtain ⟨x4, s5, q_s5, hm⟩ := zBd_of hm
    refine z_cSN (vd := true) (host := "TaxEngine") C 3 [.ref (ad 24), .int v3, .int x2] [] (c_X7_put (zC_I C) (zC_st C) kX24 q_s5) gX6_workOut_X7_put_n60 eX6b_workOut_n60 eX6b_workOut_tX7_put eX6b_workOut_iX7_put (by decide +kernel) rfl dX6_workOut_76 rfl ⟨Nat.le_of_ble_eq_true rfl, Nat.le_of_ble_eq_true rfl⟩ rfl (Nat.le_of_ble_eq_true rfl) ?_
    obtain ⟨x6, e_x6, hm⟩ := zLt_of hm
    refine z_iinc (j := 2) (v := x6) (d := (1 : Int32)) (lv' := [(2, .int x6), (4, .int t0), (0, .ref (ad 23)), (3, .int v3)]) C dX6_workOut_79 rfl (by decide) e_x6 (by decide) rfl ?_
    refine z_goto (tgt := 7) C dX6_workOut_82 (by decide) ?_
    exact z_sub [2, 0] rfl (hrec7 _ _ hm)
  · have hm := zIf hm c1
    refine z_aload_n C dX6_workOut_63 rfl 1 rfl ?_
    refine z_iload_n C dX6_workOut_64 rfl 2 rfl ?_
    obtain ⟨x7, s8, q_s8, hm⟩ := zBd_of hm
    refine z_cV (vd := false) (Cn := RX6) (k := 23) C 1 [.int v2] [.int v3, .ref (ad 24)] (c_X6b_greatest (zC_I C) (zC_st C)  q_s8) gX6_workOut_X6_greatest (by decide +kernel) kX23 vc6 rfl rfl dX6_workOut_65 rfl ⟨Nat.le_of_ble_eq_true rfl, Nat.le_of_ble_eq_true rfl⟩ rfl (Nat.le_of_ble_eq_true rfl) ?_
    refine z_goto (tgt := 76) C dX6_workOut_68 (by decide) ?_
    obtain ⟨x9, s10, q_s10, hm⟩ := zBd_of hm
    refine z_cSN (vd := true) (host := "TaxEngine") C 3 [.ref (ad 24), .int v3, .int x7] [] (c_X7_put (zC_I C) (zC_st C) kX24 q_s10) gX6_workOut_X7_put_n60 eX6b_workOut_n60 eX6b_workOut_tX7_put eX6b_workOut_iX7_put (by decide +kernel) rfl dX6_workOut_76 rfl ⟨Nat.le_of_ble_eq_true rfl, Nat.le_of_ble_eq_true rfl⟩ rfl (Nat.le_of_ble_eq_true rfl) ?_
    obtain ⟨x11, e_x11, hm⟩ := zLt_of hm
    refine z_iinc (j := 2) (v := x11) (d := (1 : Int32)) (lv' := [(2, .int x11), (4, .int t0), (0, .ref (ad 23)), (3, .int v3)]) C dX6_workOut_79 rfl (by decide) e_x11 (by decide) rfl ?_
    refine z_goto (tgt := 7) C dX6_workOut_82 (by decide) ?_
    exact z_sub [2, 0] rfl (hrec7 _ _ hm)
set_option maxRecDepth 100000 in
set_option maxHeartbeats 4000000 in
theorem w_X6b_workOut_j7 {h : zH} {ad : Nat → Nat} {G : zG} (C : zC h ad zLX 5 G cX6_workOut RX6 wsX6_workOut 6 139) {n : Nat} {r : Int32} {s9 : zS} (hQ : zQ h ad zLX G true (.inl r) s9 none) : ∀ (f : Nat) (v2 : Int32) (s : zS), m_X6b_workOut_j7 n f v2 s = some (r, s9) → zV h ad zLX 5 G s 7 [(0, .ref (ad 23)), (2, .int v2)] [] := by
  intro f
  induction f with
  | zero => intro v2 s hm; simp [m_X6b_workOut_j7] at hm
  | succ f ih =>
    intro v2 s hm
    rw [m_X6b_workOut_j7] at hm
    refine z_iload_n C dX6_workOut_7 rfl 1 rfl ?_
    refine z_bipush (v := (16 : Int32)) C dX6_workOut_8 (by decide) ?_
    refine z_icmp_ge (tgt := 85) C dX6_workOut_10 (by decide) (fun c12 => ?_) (fun c12 => ?_)
    · have hm := zIt hm c12
      exact z_vret0 C hQ (zRt_of hm).1 (zRt_of hm).2 dX6_workOut_85
    · have hm := zIf hm c12
      refine z_aload_n C dX6_workOut_13 rfl 0 rfl ?_
      refine z_getr C kX23 vc6 eX6b_workOut_uX6 1 (by decide) rfl eX6b_workOut_f23 rfl dX6_workOut_14 ?_
      refine z_iload_n C dX6_workOut_17 rfl 1 rfl ?_
      obtain ⟨x13, s14, q_s14, hm⟩ := zBd_of hm
      refine z_cV (vd := false) (Cn := RX4) (k := 6) C 1 [.int v2] [] (c_X4_lineAt (zC_I C) (zC_st C)  q_s14) gX6_workOut_X4_lineAt (by decide +kernel) kX6 vc4 rfl rfl dX6_workOut_18 rfl ⟨Nat.le_of_ble_eq_true rfl, Nat.le_of_ble_eq_true rfl⟩ rfl (Nat.le_of_ble_eq_true rfl) ?_
      refine z_istore_n (y := x13) (lv' := [(3, .int x13), (0, .ref (ad 23)), (2, .int v2)]) C dX6_workOut_21 rfl (by decide) rfl rfl ?_
      refine z_aload_n C dX6_workOut_22 rfl 1 rfl ?_
      refine z_getr C kX23 vc6 eX6b_workOut_uX6 0 (by decide) rfl eX6b_workOut_f19 rfl dX6_workOut_23 ?_
      refine z_iload_n C dX6_workOut_26 rfl 0 rfl ?_
      obtain ⟨x15, s16, q_s16, hm⟩ := zBd_of hm
      refine z_cV (vd := false) (Cn := RX5) (k := 1) C 1 [.int x13] [] (c_X5_kind (zC_I C) (zC_st C)  q_s16) gX6_workOut_X5_kind (by decide +kernel) kX1 vc5 rfl rfl dX6_workOut_27 rfl ⟨Nat.le_of_ble_eq_true rfl, Nat.le_of_ble_eq_true rfl⟩ rfl (Nat.le_of_ble_eq_true rfl) ?_
      refine z_bipush (v := (8 : Int32)) C dX6_workOut_30 (by decide) ?_
      refine z_icmp_ne (tgt := 50) C dX6_workOut_32 (by decide) (fun c17 => ?_) (fun c17 => ?_)
      · have hm := zIf hm c17
        refine z_iconst (v := (0 : Int32)) C dX6_workOut_50 (by decide) ?_
        exact z_sub [1, 2, 0] rfl (w_X6b_workOut_j51 C hQ ih _ _ _ _ hm)
      · have hm := zIt hm c17
        refine z_aload_n C dX6_workOut_35 rfl 1 rfl ?_
        refine z_getr C kX23 vc6 eX6b_workOut_uX6 1 (by decide) rfl eX6b_workOut_f23 rfl dX6_workOut_36 ?_
        refine z_iload_n C dX6_workOut_39 rfl 0 rfl ?_
        obtain ⟨x18, s19, q_s19, hm⟩ := zBd_of hm
        refine z_cV (vd := false) (Cn := RX4) (k := 6) C 1 [.int x13] [] (c_X4_isCircular (zC_I C) (zC_st C)  q_s19) gX6_workOut_X4_isCircular (by decide +kernel) kX6 vc4 rfl rfl dX6_workOut_40 rfl ⟨Nat.le_of_ble_eq_true rfl, Nat.le_of_ble_eq_true rfl⟩ rfl (Nat.le_of_ble_eq_true rfl) ?_
        refine z_if_eq (tgt := 50) C dX6_workOut_43 (by decide) (fun c20 => ?_) (fun c20 => ?_)
        · have hm := zIt hm c20
          refine z_iconst (v := (0 : Int32)) C dX6_workOut_50 (by decide) ?_
          exact z_sub [1, 2, 0] rfl (w_X6b_workOut_j51 C hQ ih _ _ _ _ hm)
        · have hm := zIf hm c20
          refine z_iconst (v := (1 : Int32)) C dX6_workOut_46 (by decide) ?_
          refine z_goto (tgt := 51) C dX6_workOut_47 (by decide) ?_
          exact z_sub [1, 2, 0] rfl (w_X6b_workOut_j51 C hQ ih _ _ _ _ hm)
set_option maxRecDepth 100000 in
set_option maxHeartbeats 4000000 in
theorem w_X6b_workOut_e {h : zH} {ad : Nat → Nat} {G : zG} (C : zC h ad zLX 5 G cX6_workOut RX6 wsX6_workOut 6 139) {n : Nat} {r : Int32} {s9 : zS} (hQ : zQ h ad zLX G true (.inl r) s9 none) {v1 : Int32} (s : zS) (hm : m_X6b_workOut n v1 s = some (r, s9)) : zV h ad zLX 5 G s 0 [(0, .ref (ad 23)), (1, .int v1)] [] := by
  rw [m_X6b_workOut] at hm
  refine z_aload_n C dX6_workOut_0 rfl 0 rfl ?_
  refine z_iload_n C dX6_workOut_1 rfl 1 rfl ?_
  obtain ⟨s21, e_s21, hm⟩ := zLt_of hm
  refine z_put C kX23 vc6 eX6b_workOut_uX6 tyX6_ok nmX6 5 (by decide) rfl eX6b_workOut_f15 rfl rfl rfl e_s21 dX6_workOut_2 ?_
  refine z_iconst (v := (0 : Int32)) C dX6_workOut_5 (by decide) ?_
  refine z_istore_n (y := (0 : Int32)) (lv' := [(2, .int (0 : Int32)), (0, .ref (ad 23)), (1, .int v1)]) C dX6_workOut_6 rfl (by decide) rfl rfl ?_
  exact z_sub [1, 0] rfl (w_X6b_workOut_j7 C hQ  _ _ _ hm)
set_option maxRecDepth 100000 in
set_option maxHeartbeats 4000000 in
theorem c_X6b_workOut {h : zH} {ad : Nat → Nat} (hI : zI ad zLX.length) (hst : h.1.stackTraces = false) {n : Nat} {v1 : Int32} {s s9 : zS} {r : Int32} (hm : m_X6b_workOut n v1 s = some (r, s9)) : zMR h ad zLX true yX6_workOut wsX6_workOut 6 139 [.ref (ad 23), .int v1] s (.inl r) s9 :=
  z_start (cc := cX6_workOut) (nL := 5) (ret := none) (own := RX6) (by decide +kernel) rfl rfl hI hst (Nat.le_of_ble_eq_true rfl) (fun G C hQ => w_X6b_workOut_e C hQ _ hm)
