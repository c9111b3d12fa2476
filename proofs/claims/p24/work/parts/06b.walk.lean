set_option maxRecDepth 100000 in
theorem eX2_size_uX2 : ∀ w ∈ wsX20, w ∈ wsX2_size := by decide +kernel
set_option maxRecDepth 100000 in
theorem eX2_size_f24 : Cond.fieldLink RX2 24 RX2 (TX2 4).2.1 (TX2 4).2.2.1 ∈ wsX2_size := by decide +kernel
set_option maxRecDepth 100000 in
set_option maxHeartbeats 4000000 in
theorem w_X2_size_e {h : zH} {ad : Nat → Nat} {G : zG} (C : zC h ad zLX 1 G cX2_size RX2 wsX2_size 0 0) {n : Nat} {r : Int32} {s9 : zS} (hQ : zQ h ad zLX G false (.inl r) s9 (some .int))  (s : zS) (hm : m_X2_size n s = some (r, s9)) : zV h ad zLX 1 G s 0 [(0, .ref (ad 16))] [] := by
  rw [m_X2_size] at hm
  refine z_aload_n C dX2_size_0 rfl 0 rfl ?_
  refine z_get C kX16 vc2 eX2_size_uX2 4 (by decide) rfl eX2_size_f24 rfl dX2_size_1 ?_
  exact z_iret0 C hQ (zRt_of hm).1 (zRt_of hm).2 dX2_size_4
set_option maxRecDepth 100000 in
set_option maxHeartbeats 4000000 in
theorem c_X2_size {h : zH} {ad : Nat → Nat} (hI : zI ad zLX.length) (hst : h.1.stackTraces = false) {n : Nat} {s s9 : zS} {r : Int32} (hm : m_X2_size n s = some (r, s9)) : zMR h ad zLX false yX2_size wsX2_size 0 0 [.ref (ad 16)] s (.inl r) s9 :=
  z_start (cc := cX2_size) (nL := 1) (ret := (some .int)) (own := RX2) (by decide +kernel) rfl rfl hI hst (Nat.le_of_ble_eq_true rfl) (fun G C hQ => w_X2_size_e C hQ _ hm)
set_option maxRecDepth 100000 in
theorem eX2_add_uX2 : ∀ w ∈ wsX20, w ∈ wsX2_add := by decide +kernel
set_option maxRecDepth 100000 in
theorem eX2_add_f9 : Cond.fieldLink RX2 9 RX2 (TX2 0).2.1 (TX2 0).2.2.1 ∈ wsX2_add := by decide +kernel
set_option maxRecDepth 100000 in
theorem eX2_add_f24 : Cond.fieldLink RX2 24 RX2 (TX2 4).2.1 (TX2 4).2.2.1 ∈ wsX2_add := by decide +kernel
set_option maxRecDepth 100000 in
theorem eX2_add_tX7_put : Cond.static yX7_put ∈ wsX2_add := by decide +kernel
set_option maxRecDepth 100000 in
theorem eX2_add_iX7_put : Cond.initialized yX7_put.cls ∈ wsX2_add := by decide +kernel
set_option maxRecDepth 100000 in
theorem eX2_add_n28 : (RX2, 28, yX7_put, "TaxEngine") ∈ zN := by decide +kernel
set_option maxRecDepth 100000 in
theorem eX2_add_f15 : Cond.fieldLink RX2 15 RX2 (TX2 1).2.1 (TX2 1).2.2.1 ∈ wsX2_add := by decide +kernel
set_option maxRecDepth 100000 in
set_option maxHeartbeats 4000000 in
theorem w_X2_add_e {h : zH} {ad : Nat → Nat} {G : zG} (C : zC h ad zLX 3 G cX2_add RX2 wsX2_add 1 22) {n : Nat} {r : Int32} {s9 : zS} (hQ : zQ h ad zLX G true (.inl r) s9 none) {v1 : Int32} {v2 : Int32} (s : zS) (hm : m_X2_add n v1 v2 s = some (r, s9)) : zV h ad zLX 3 G s 0 [(0, .ref (ad 16)), (1, .int v1), (2, .int v2)] [] := by
  rw [m_X2_add] at hm
  refine z_aload_n C dX2_add_0 rfl 0 rfl ?_
  refine z_getr C kX16 vc2 eX2_add_uX2 0 (by decide) rfl eX2_add_f9 rfl dX2_add_1 ?_
  refine z_aload_n C dX2_add_4 rfl 0 rfl ?_
  refine z_get C kX16 vc2 eX2_add_uX2 4 (by decide) rfl eX2_add_f24 rfl dX2_add_5 ?_
  refine z_iload_n C dX2_add_8 rfl 1 rfl ?_
  obtain ⟨x1, s2, q_s2, hm⟩ := zBd_of hm
  refine z_cSN (vd := true) (host := "TaxEngine") C 3 [.ref (ad 17), .int (s 16 4), .int v1] [] (c_X7_put (zC_I C) (zC_st C) kX17 q_s2) gX2_add_X7_put_n28 eX2_add_n28 eX2_add_tX7_put eX2_add_iX7_put (by decide +kernel) rfl dX2_add_9 rfl ⟨Nat.le_of_ble_eq_true rfl, Nat.le_of_ble_eq_true rfl⟩ rfl (Nat.le_of_ble_eq_true rfl) ?_
  refine z_aload_n C dX2_add_12 rfl 0 rfl ?_
  refine z_getr C kX16 vc2 eX2_add_uX2 1 (by decide) rfl eX2_add_f15 rfl dX2_add_13 ?_
  refine z_aload_n C dX2_add_16 rfl 0 rfl ?_
  refine z_get C kX16 vc2 eX2_add_uX2 4 (by decide) rfl eX2_add_f24 rfl dX2_add_17 ?_
  refine z_iload_n C dX2_add_20 rfl 2 rfl ?_
  obtain ⟨x3, s4, q_s4, hm⟩ := zBd_of hm
  refine z_cSN (vd := true) (host := "TaxEngine") C 3 [.ref (ad 18), .int (s2 16 4), .int v2] [] (c_X7_put (zC_I C) (zC_st C) kX18 q_s4) gX2_add_X7_put_n28 eX2_add_n28 eX2_add_tX7_put eX2_add_iX7_put (by decide +kernel) rfl dX2_add_21 rfl ⟨Nat.le_of_ble_eq_true rfl, Nat.le_of_ble_eq_true rfl⟩ rfl (Nat.le_of_ble_eq_true rfl) ?_
  refine z_aload_n C dX2_add_24 rfl 0 rfl ?_
  refine z_dup C dX2_add_25 rfl ?_
  refine z_get C kX16 vc2 eX2_add_uX2 4 (by decide) rfl eX2_add_f24 rfl dX2_add_26 ?_
  refine z_iconst (v := (1 : Int32)) C dX2_add_29 (by decide) ?_
  refine z_iadd C dX2_add_30 ?_
  obtain ⟨s5, e_s5, hm⟩ := zLt_of hm
  refine z_put C kX16 vc2 eX2_add_uX2 tyX2_ok nmX2 4 (by decide) rfl eX2_add_f24 rfl rfl rfl e_s5 dX2_add_31 ?_
  exact z_vret0 C hQ (zRt_of hm).1 (zRt_of hm).2 dX2_add_34
set_option maxRecDepth 100000 in
set_option maxHeartbeats 4000000 in
theorem c_X2_add {h : zH} {ad : Nat → Nat} (hI : zI ad zLX.length) (hst : h.1.stackTraces = false) {n : Nat} {v1 : Int32} {v2 : Int32} {s s9 : zS} {r : Int32} (hm : m_X2_add n v1 v2 s = some (r, s9)) : zMR h ad zLX true yX2_add wsX2_add 1 22 [.ref (ad 16), .int v1, .int v2] s (.inl r) s9 :=
  z_start (cc := cX2_add) (nL := 3) (ret := none) (own := RX2) (by decide +kernel) rfl rfl hI hst (Nat.le_of_ble_eq_true rfl) (fun G C hQ => w_X2_add_e C hQ _ hm)
set_option maxRecDepth 100000 in
theorem eX2_dropLast_uX2 : ∀ w ∈ wsX20, w ∈ wsX2_dropLast := by decide +kernel
set_option maxRecDepth 100000 in
theorem eX2_dropLast_f24 : Cond.fieldLink RX2 24 RX2 (TX2 4).2.1 (TX2 4).2.2.1 ∈ wsX2_dropLast := by decide +kernel
set_option maxRecDepth 100000 in
set_option maxHeartbeats 4000000 in
theorem w_X2_dropLast_e {h : zH} {ad : Nat → Nat} {G : zG} (C : zC h ad zLX 1 G cX2_dropLast RX2 wsX2_dropLast 0 0) {n : Nat} {r : Int32} {s9 : zS} (hQ : zQ h ad zLX G true (.inl r) s9 none)  (s : zS) (hm : m_X2_dropLast n s = some (r, s9)) : zV h ad zLX 1 G s 0 [(0, .ref (ad 16))] [] := by
  rw [m_X2_dropLast] at hm
  refine z_aload_n C dX2_dropLast_0 rfl 0 rfl ?_
  refine z_dup C dX2_dropLast_1 rfl ?_
  refine z_get C kX16 vc2 eX2_dropLast_uX2 4 (by decide) rfl eX2_dropLast_f24 rfl dX2_dropLast_2 ?_
  refine z_iconst (v := (1 : Int32)) C dX2_dropLast_5 (by decide) ?_
  refine z_isub C dX2_dropLast_6 ?_
  obtain ⟨s1, e_s1, hm⟩ := zLt_of hm
  refine z_put C kX16 vc2 eX2_dropLast_uX2 tyX2_ok nmX2 4 (by decide) rfl eX2_dropLast_f24 rfl rfl rfl e_s1 dX2_dropLast_7 ?_
  exact z_vret0 C hQ (zRt_of hm).1 (zRt_of hm).2 dX2_dropLast_10
set_option maxRecDepth 100000 in
set_option maxHeartbeats 4000000 in
theorem c_X2_dropLast {h : zH} {ad : Nat → Nat} (hI : zI ad zLX.length) (hst : h.1.stackTraces = false) {n : Nat} {s s9 : zS} {r : Int32} (hm : m_X2_dropLast n s = some (r, s9)) : zMR h ad zLX true yX2_dropLast wsX2_dropLast 0 0 [.ref (ad 16)] s (.inl r) s9 :=
  z_start (cc := cX2_dropLast) (nL := 1) (ret := none) (own := RX2) (by decide +kernel) rfl rfl hI hst (Nat.le_of_ble_eq_true rfl) (fun G C hQ => w_X2_dropLast_e C hQ _ hm)
set_option maxRecDepth 100000 in
theorem eX2_total_uX2 : ∀ w ∈ wsX20, w ∈ wsX2_total := by decide +kernel
set_option maxRecDepth 100000 in
theorem eX2_total_f24 : Cond.fieldLink RX2 24 RX2 (TX2 4).2.1 (TX2 4).2.2.1 ∈ wsX2_total := by decide +kernel
set_option maxRecDepth 100000 in
theorem eX2_total_f9 : Cond.fieldLink RX2 9 RX2 (TX2 0).2.1 (TX2 0).2.2.1 ∈ wsX2_total := by decide +kernel
set_option maxRecDepth 100000 in
theorem eX2_total_tX7_at : Cond.static yX7_at ∈ wsX2_total := by decide +kernel
set_option maxRecDepth 100000 in
theorem eX2_total_iX7_at : Cond.initialized yX7_at.cls ∈ wsX2_total := by decide +kernel
set_option maxRecDepth 100000 in
theorem eX2_total_n32 : (RX2, 32, yX7_at, "TaxEngine") ∈ zN := by decide +kernel
set_option maxRecDepth 100000 in
set_option maxHeartbeats 4000000 in
theorem w_X2_total_j4 {h : zH} {ad : Nat → Nat} {G : zG} (C : zC h ad zLX 3 G cX2_total RX2 wsX2_total 1 21) {n : Nat} {r : Int32} {s9 : zS} (hQ : zQ h ad zLX G false (.inl r) s9 (some .int)) : ∀ (f : Nat) (v1 : Int32) (v2 : Int32) (s : zS), m_X2_total_j4 n f v1 v2 s = some (r, s9) → zV h ad zLX 3 G s 4 [(0, .ref (ad 16)), (1, .int v1), (2, .int v2)] [] := by
  intro f
  induction f with
  | zero => intro v1 v2 s hm; simp [m_X2_total_j4] at hm
  | succ f ih =>
    intro v1 v2 s hm
    rw [m_X2_total_j4] at hm
    refine z_iload_n C dX2_total_4 rfl 2 rfl ?_
    refine z_aload_n C dX2_total_5 rfl 0 rfl ?_
    refine z_get C kX16 vc2 eX2_total_uX2 4 (by decide) rfl eX2_total_f24 rfl dX2_total_6 ?_
    refine z_icmp_ge (tgt := 29) C dX2_total_9 (by decide) (fun c1 => ?_) (fun c1 => ?_)
    · have hm := zIt hm c1
      refine z_iload_n C dX2_total_29 rfl 1 rfl ?_
      exact z_iret0 C hQ (zRt_of hm).1 (zRt_of hm).2 dX2_total_30
    · have hm := zIf hm c1
      refine z_iload_n C dX2_total_12 rfl 1 rfl ?_
      refine z_aload_n C dX2_total_13 rfl 0 rfl ?_
      refine z_getr C kX16 vc2 eX2_total_uX2 0 (by decide) rfl eX2_total_f9 rfl dX2_total_14 ?_
      refine z_iload_n C dX2_total_17 rfl 2 rfl ?_
      obtain ⟨x2, s3, q_s3, hm⟩ := zBd_of hm
      refine z_cSN (vd := false) (host := "TaxEngine") C 2 [.ref (ad 17), .int v2] [.int v1] (c_X7_at (zC_I C) (zC_st C) kX17 q_s3) gX2_total_X7_at_n32 eX2_total_n32 eX2_total_tX7_at eX2_total_iX7_at (by decide +kernel) rfl dX2_total_18 rfl ⟨Nat.le_of_ble_eq_true rfl, Nat.le_of_ble_eq_true rfl⟩ rfl (Nat.le_of_ble_eq_true rfl) ?_
      refine z_iadd C dX2_total_21 ?_
      obtain ⟨x4, e_x4, hm⟩ := zLt_of hm
      refine z_istore_n (y := x4) (lv' := [(1, .int x4), (0, .ref (ad 16)), (2, .int v2)]) C dX2_total_22 rfl (by decide) e_x4 rfl ?_
      obtain ⟨x5, e_x5, hm⟩ := zLt_of hm
      refine z_iinc (j := 2) (v := x5) (d := (1 : Int32)) (lv' := [(2, .int x5), (1, .int x4), (0, .ref (ad 16))]) C dX2_total_23 rfl (by decide) e_x5 (by decide) rfl ?_
      refine z_goto (tgt := 4) C dX2_total_26 (by decide) ?_
      exact z_sub [2, 1, 0] rfl (ih _ _ _ hm)
set_option maxRecDepth 100000 in
set_option maxHeartbeats 4000000 in
theorem w_X2_total_e {h : zH} {ad : Nat → Nat} {G : zG} (C : zC h ad zLX 3 G cX2_total RX2 wsX2_total 1 21) {n : Nat} {r : Int32} {s9 : zS} (hQ : zQ h ad zLX G false (.inl r) s9 (some .int))  (s : zS) (hm : m_X2_total n s = some (r, s9)) : zV h ad zLX 3 G s 0 [(0, .ref (ad 16))] [] := by
  rw [m_X2_total] at hm
  refine z_iconst (v := (0 : Int32)) C dX2_total_0 (by decide) ?_
  refine z_istore_n (y := (0 : Int32)) (lv' := [(1, .int (0 : Int32)), (0, .ref (ad 16))]) C dX2_total_1 rfl (by decide) rfl rfl ?_
  refine z_iconst (v := (0 : Int32)) C dX2_total_2 (by decide) ?_
  refine z_istore_n (y := (0 : Int32)) (lv' := [(2, .int (0 : Int32)), (1, .int (0 : Int32)), (0, .ref (ad 16))]) C dX2_total_3 rfl (by decide) rfl rfl ?_
  exact z_sub [2, 1, 0] rfl (w_X2_total_j4 C hQ  _ _ _ _ hm)
set_option maxRecDepth 100000 in
set_option maxHeartbeats 4000000 in
theorem c_X2_total {h : zH} {ad : Nat → Nat} (hI : zI ad zLX.length) (hst : h.1.stackTraces = false) {n : Nat} {s s9 : zS} {r : Int32} (hm : m_X2_total n s = some (r, s9)) : zMR h ad zLX false yX2_total wsX2_total 1 21 [.ref (ad 16)] s (.inl r) s9 :=
  z_start (cc := cX2_total) (nL := 3) (ret := (some .int)) (own := RX2) (by decide +kernel) rfl rfl hI hst (Nat.le_of_ble_eq_true rfl) (fun G C hQ => w_X2_total_e C hQ _ hm)
set_option maxRecDepth 100000 in
theorem eX2_bestAt_uX2 : ∀ w ∈ wsX20, w ∈ wsX2_bestAt := by decide +kernel
set_option maxRecDepth 100000 in
theorem eX2_bestAt_f21 : Cond.fieldLink RX2 21 RX2 (TX2 3).2.1 (TX2 3).2.2.1 ∈ wsX2_bestAt := by decide +kernel
set_option maxRecDepth 100000 in
theorem eX2_bestAt_tX7_at : Cond.static yX7_at ∈ wsX2_bestAt := by decide +kernel
set_option maxRecDepth 100000 in
theorem eX2_bestAt_iX7_at : Cond.initialized yX7_at.cls ∈ wsX2_bestAt := by decide +kernel
set_option maxRecDepth 100000 in
theorem eX2_bestAt_n32 : (RX2, 32, yX7_at, "TaxEngine") ∈ zN := by decide +kernel
set_option maxRecDepth 100000 in
set_option maxHeartbeats 4000000 in
theorem w_X2_bestAt_e {h : zH} {ad : Nat → Nat} {G : zG} (C : zC h ad zLX 2 G cX2_bestAt RX2 wsX2_bestAt 1 21) {n : Nat} {r : Int32} {s9 : zS} (hQ : zQ h ad zLX G false (.inl r) s9 (some .int)) {v1 : Int32} (s : zS) (hm : m_X2_bestAt n v1 s = some (r, s9)) : zV h ad zLX 2 G s 0 [(0, .ref (ad 16)), (1, .int v1)] [] := by
  rw [m_X2_bestAt] at hm
  refine z_aload_n C dX2_bestAt_0 rfl 0 rfl ?_
  refine z_getr C kX16 vc2 eX2_bestAt_uX2 3 (by decide) rfl eX2_bestAt_f21 rfl dX2_bestAt_1 ?_
  refine z_iload_n C dX2_bestAt_4 rfl 1 rfl ?_
  obtain ⟨x1, s2, q_s2, hm⟩ := zBd_of hm
  refine z_cSN (vd := false) (host := "TaxEngine") C 2 [.ref (ad 20), .int v1] [] (c_X7_at (zC_I C) (zC_st C) kX20 q_s2) gX2_bestAt_X7_at_n32 eX2_bestAt_n32 eX2_bestAt_tX7_at eX2_bestAt_iX7_at (by decide +kernel) rfl dX2_bestAt_5 rfl ⟨Nat.le_of_ble_eq_true rfl, Nat.le_of_ble_eq_true rfl⟩ rfl (Nat.le_of_ble_eq_true rfl) ?_
  exact z_iret0 C hQ (zRt_of hm).1 (zRt_of hm).2 dX2_bestAt_8
set_option maxRecDepth 100000 in
set_option maxHeartbeats 4000000 in
theorem c_X2_bestAt {h : zH} {ad : Nat → Nat} (hI : zI ad zLX.length) (hst : h.1.stackTraces = false) {n : Nat} {v1 : Int32} {s s9 : zS} {r : Int32} (hm : m_X2_bestAt n v1 s = some (r, s9)) : zMR h ad zLX false yX2_bestAt wsX2_bestAt 1 21 [.ref (ad 16), .int v1] s (.inl r) s9 :=
  z_start (cc := cX2_bestAt) (nL := 2) (ret := (some .int)) (own := RX2) (by decide +kernel) rfl rfl hI hst (Nat.le_of_ble_eq_true rfl) (fun G C hQ => w_X2_bestAt_e C hQ _ hm)
set_option maxRecDepth 100000 in
theorem eX2_sumInOrder_uX2 : ∀ w ∈ wsX20, w ∈ wsX2_sumInOrder := by decide +kernel
set_option maxRecDepth 100000 in
theorem eX2_sumInOrder_f24 : Cond.fieldLink RX2 24 RX2 (TX2 4).2.1 (TX2 4).2.2.1 ∈ wsX2_sumInOrder := by decide +kernel
set_option maxRecDepth 100000 in
theorem eX2_sumInOrder_f18 : Cond.fieldLink RX2 18 RX2 (TX2 2).2.1 (TX2 2).2.2.1 ∈ wsX2_sumInOrder := by decide +kernel
set_option maxRecDepth 100000 in
theorem eX2_sumInOrder_tX7_at : Cond.static yX7_at ∈ wsX2_sumInOrder := by decide +kernel
set_option maxRecDepth 100000 in
theorem eX2_sumInOrder_iX7_at : Cond.initialized yX7_at.cls ∈ wsX2_sumInOrder := by decide +kernel
set_option maxRecDepth 100000 in
theorem eX2_sumInOrder_n32 : (RX2, 32, yX7_at, "TaxEngine") ∈ zN := by decide +kernel
set_option maxRecDepth 100000 in
theorem eX2_sumInOrder_f9 : Cond.fieldLink RX2 9 RX2 (TX2 0).2.1 (TX2 0).2.2.1 ∈ wsX2_sumInOrder := by decide +kernel
set_option maxRecDepth 100000 in
theorem eX2_sumInOrder_l47 : Cond.methodLink RX2 47 Lib.Math.min.name ∈ wsX2_sumInOrder := by decide +kernel
set_option maxRecDepth 100000 in
theorem eX2_sumInOrder_stmin : Cond.static Lib.Math.min.name ∈ wsX2_sumInOrder := by decide +kernel
set_option maxRecDepth 100000 in
theorem eX2_sumInOrder_im : Cond.initialized "java/lang/Math" ∈ wsX2_sumInOrder := by decide +kernel
set_option maxRecDepth 100000 in
theorem eX2_sumInOrder_cmmin : Cond.code Lib.Math.min.name Lib.Math.min.code 2 (some .int) ∈ wsX2_sumInOrder := by decide +kernel
set_option maxRecDepth 100000 in
theorem eX2_sumInOrder_f15 : Cond.fieldLink RX2 15 RX2 (TX2 1).2.1 (TX2 1).2.2.1 ∈ wsX2_sumInOrder := by decide +kernel
set_option maxRecDepth 100000 in
theorem eX2_sumInOrder_tX7_thousandths : Cond.static yX7_thousandths ∈ wsX2_sumInOrder := by decide +kernel
set_option maxRecDepth 100000 in
theorem eX2_sumInOrder_iX7_thousandths : Cond.initialized yX7_thousandths.cls ∈ wsX2_sumInOrder := by decide +kernel
set_option maxRecDepth 100000 in
theorem eX2_sumInOrder_n53 : (RX2, 53, yX7_thousandths, "TaxEngine") ∈ zN := by decide +kernel
set_option maxRecDepth 100000 in
set_option maxHeartbeats 4000000 in
theorem w_X2_sumInOrder_j7 {h : zH} {ad : Nat → Nat} {G : zG} (C : zC h ad zLX 7 G cX2_sumInOrder RX2 wsX2_sumInOrder 1 21) {n : Nat} {r : Int32} {s9 : zS} (hQ : zQ h ad zLX G false (.inl r) s9 (some .int)) : ∀ (f : Nat) (v2 : Int32) (v3 : Int32) (v4 : Int32) (s : zS), m_X2_sumInOrder_j7 n f v2 v3 v4 s = some (r, s9) → zV h ad zLX 7 G s 7 [(0, .ref (ad 16)), (2, .int v2), (3, .int v3), (4, .int v4)] [] := by
  intro f
  induction f with
  | zero => intro v2 v3 v4 s hm; simp [m_X2_sumInOrder_j7] at hm
  | succ f ih =>
    intro v2 v3 v4 s hm
    rw [m_X2_sumInOrder_j7] at hm
    refine z_iload C dX2_sumInOrder_7 3 rfl ?_
    refine z_aload_n C dX2_sumInOrder_9 rfl 0 rfl ?_
    refine z_get C kX16 vc2 eX2_sumInOrder_uX2 4 (by decide) rfl eX2_sumInOrder_f24 rfl dX2_sumInOrder_10 ?_
    refine z_icmp_ge (tgt := 83) C dX2_sumInOrder_13 (by decide) (fun c1 => ?_) (fun c1 => ?_)
    · have hm := zIt hm c1
      refine z_iload_n C dX2_sumInOrder_83 rfl 2 rfl ?_
      exact z_iret0 C hQ (zRt_of hm).1 (zRt_of hm).2 dX2_sumInOrder_84
    · have hm := zIf hm c1
      refine z_aload_n C dX2_sumInOrder_16 rfl 0 rfl ?_
      refine z_getr C kX16 vc2 eX2_sumInOrder_uX2 2 (by decide) rfl eX2_sumInOrder_f18 rfl dX2_sumInOrder_17 ?_
      refine z_iload C dX2_sumInOrder_20 3 rfl ?_
      obtain ⟨x2, s3, q_s3, hm⟩ := zBd_of hm
      refine z_cSN (vd := false) (host := "TaxEngine") C 2 [.ref (ad 19), .int v4] [] (c_X7_at (zC_I C) (zC_st C) kX19 q_s3) gX2_sumInOrder_X7_at_n32 eX2_sumInOrder_n32 eX2_sumInOrder_tX7_at eX2_sumInOrder_iX7_at (by decide +kernel) rfl dX2_sumInOrder_22 rfl ⟨Nat.le_of_ble_eq_true rfl, Nat.le_of_ble_eq_true rfl⟩ rfl (Nat.le_of_ble_eq_true rfl) ?_
      refine z_istore (y := x2) (lv' := [(5, .int x2), (0, .ref (ad 16)), (2, .int v2), (3, .int v3), (4, .int v4)]) C dX2_sumInOrder_25 (by decide) rfl rfl ?_
      refine z_iload_n C dX2_sumInOrder_27 rfl 2 rfl ?_
      refine z_aload_n C dX2_sumInOrder_28 rfl 1 rfl ?_
      refine z_getr C kX16 vc2 eX2_sumInOrder_uX2 0 (by decide) rfl eX2_sumInOrder_f9 rfl dX2_sumInOrder_29 ?_
      refine z_iload C dX2_sumInOrder_32 0 rfl ?_
      obtain ⟨x4, s5, q_s5, hm⟩ := zBd_of hm
      refine z_cSN (vd := false) (host := "TaxEngine") C 2 [.ref (ad 17), .int x2] [.int v2] (c_X7_at (zC_I C) (zC_st C) kX17 q_s5) gX2_sumInOrder_X7_at_n32 eX2_sumInOrder_n32 eX2_sumInOrder_tX7_at eX2_sumInOrder_iX7_at (by decide +kernel) rfl dX2_sumInOrder_34 rfl ⟨Nat.le_of_ble_eq_true rfl, Nat.le_of_ble_eq_true rfl⟩ rfl (Nat.le_of_ble_eq_true rfl) ?_
      refine z_mmin C eX2_sumInOrder_l47 eX2_sumInOrder_stmin eX2_sumInOrder_im eX2_sumInOrder_cmmin (Nat.le_of_ble_eq_true rfl) (Nat.le_of_ble_eq_true rfl) dX2_sumInOrder_37 ?_
      obtain ⟨x6, e_x6, hm⟩ := zLt_of hm
      refine z_istore (y := x6) (lv' := [(6, .int x6), (5, .int x2), (0, .ref (ad 16)), (2, .int v2), (3, .int v3), (4, .int v4)]) C dX2_sumInOrder_40 (by decide) e_x6 rfl ?_
      refine z_iload_n C dX2_sumInOrder_42 rfl 3 rfl ?_
      refine z_iload C dX2_sumInOrder_43 0 rfl ?_
      refine z_isub C dX2_sumInOrder_45 ?_
      obtain ⟨x7, e_x7, hm⟩ := zLt_of hm
      refine z_istore_n (y := x7) (lv' := [(2, .int x7), (6, .int x6), (5, .int x2), (0, .ref (ad 16)), (3, .int v3), (4, .int v4)]) C dX2_sumInOrder_46 rfl (by decide) e_x7 rfl ?_
      refine z_iload_n C dX2_sumInOrder_47 rfl 4 rfl ?_
      refine z_iload C dX2_sumInOrder_48 1 rfl ?_
      refine z_aload_n C dX2_sumInOrder_50 rfl 3 rfl ?_
      refine z_getr C kX16 vc2 eX2_sumInOrder_uX2 0 (by decide) rfl eX2_sumInOrder_f9 rfl dX2_sumInOrder_51 ?_
      refine z_iload C dX2_sumInOrder_54 2 rfl ?_
      obtain ⟨x8, s9, q_s9, hm⟩ := zBd_of hm
      refine z_cSN (vd := false) (host := "TaxEngine") C 2 [.ref (ad 17), .int x2] [.int x6, .int v3] (c_X7_at (zC_I C) (zC_st C) kX17 q_s9) gX2_sumInOrder_X7_at_n32 eX2_sumInOrder_n32 eX2_sumInOrder_tX7_at eX2_sumInOrder_iX7_at (by decide +kernel) rfl dX2_sumInOrder_56 rfl ⟨Nat.le_of_ble_eq_true rfl, Nat.le_of_ble_eq_true rfl⟩ rfl (Nat.le_of_ble_eq_true rfl) ?_
      refine z_iload C dX2_sumInOrder_59 1 rfl ?_
      refine z_isub C dX2_sumInOrder_61 ?_
      refine z_aload_n C dX2_sumInOrder_62 rfl 3 rfl ?_
      refine z_getr C kX16 vc2 eX2_sumInOrder_uX2 1 (by decide) rfl eX2_sumInOrder_f15 rfl dX2_sumInOrder_63 ?_
      refine z_iload C dX2_sumInOrder_66 2 rfl ?_
      obtain ⟨x10, s11, q_s11, hm⟩ := zBd_of hm
      refine z_cSN (vd := false) (host := "TaxEngine") C 2 [.ref (ad 18), .int x2] [.int (x8 - x6), .int x6, .int v3] (c_X7_at (zC_I C) (zC_st C) kX18 q_s11) gX2_sumInOrder_X7_at_n32 eX2_sumInOrder_n32 eX2_sumInOrder_tX7_at eX2_sumInOrder_iX7_at (by decide +kernel) rfl dX2_sumInOrder_68 rfl ⟨Nat.le_of_ble_eq_true rfl, Nat.le_of_ble_eq_true rfl⟩ rfl (Nat.le_of_ble_eq_true rfl) ?_
      obtain ⟨x12, s13, q_s13, hm⟩ := zBd_of hm
      refine z_cSN (vd := false) (host := "TaxEngine") C 2 [.int (x8 - x6), .int x10] [.int x6, .int v3] (c_X7_thousandths (zC_I C) (zC_st C)  q_s13) gX2_sumInOrder_X7_thousandths_n53 eX2_sumInOrder_n53 eX2_sumInOrder_tX7_thousandths eX2_sumInOrder_iX7_thousandths (by decide +kernel) rfl dX2_sumInOrder_71 rfl ⟨Nat.le_of_ble_eq_true rfl, Nat.le_of_ble_eq_true rfl⟩ rfl (Nat.le_of_ble_eq_true rfl) ?_
      refine z_iadd C dX2_sumInOrder_74 ?_
      refine z_iadd C dX2_sumInOrder_75 ?_
      obtain ⟨x14, e_x14, hm⟩ := zLt_of hm
      refine z_istore_n (y := x14) (lv' := [(3, .int x14), (2, .int x7), (6, .int x6), (5, .int x2), (0, .ref (ad 16)), (4, .int v4)]) C dX2_sumInOrder_76 rfl (by decide) e_x14 rfl ?_
      obtain ⟨x15, e_x15, hm⟩ := zLt_of hm
      refine z_iinc (j := 5) (v := x15) (d := (1 : Int32)) (lv' := [(4, .int x15), (3, .int x14), (2, .int x7), (6, .int x6), (5, .int x2), (0, .ref (ad 16))]) C dX2_sumInOrder_77 rfl (by decide) e_x15 (by decide) rfl ?_
      refine z_goto (tgt := 7) C dX2_sumInOrder_80 (by decide) ?_
      exact z_sub [5, 2, 1, 0] rfl (ih _ _ _ _ hm)
set_option maxRecDepth 100000 in
set_option maxHeartbeats 4000000 in
theorem w_X2_sumInOrder_e {h : zH} {ad : Nat → Nat} {G : zG} (C : zC h ad zLX 7 G cX2_sumInOrder RX2 wsX2_sumInOrder 1 21) {n : Nat} {r : Int32} {s9 : zS} (hQ : zQ h ad zLX G false (.inl r) s9 (some .int)) {v1 : Int32} (s : zS) (hm : m_X2_sumInOrder n v1 s = some (r, s9)) : zV h ad zLX 7 G s 0 [(0, .ref (ad 16)), (1, .int v1)] [] := by
  rw [m_X2_sumInOrder] at hm
  refine z_iload_n C dX2_sumInOrder_0 rfl 1 rfl ?_
  refine z_istore_n (y := v1) (lv' := [(2, .int v1), (0, .ref (ad 16)), (1, .int v1)]) C dX2_sumInOrder_1 rfl (by decide) rfl rfl ?_
  refine z_iconst (v := (0 : Int32)) C dX2_sumInOrder_2 (by decide) ?_
  refine z_istore_n (y := (0 : Int32)) (lv' := [(3, .int (0 : Int32)), (2, .int v1), (0, .ref (ad 16)), (1, .int v1)]) C dX2_sumInOrder_3 rfl (by decide) rfl rfl ?_
  refine z_iconst (v := (0 : Int32)) C dX2_sumInOrder_4 (by decide) ?_
  refine z_istore (y := (0 : Int32)) (lv' := [(4, .int (0 : Int32)), (3, .int (0 : Int32)), (2, .int v1), (0, .ref (ad 16)), (1, .int v1)]) C dX2_sumInOrder_5 (by decide) rfl rfl ?_
  exact z_sub [3, 2, 1, 0] rfl (w_X2_sumInOrder_j7 C hQ  _ _ _ _ _ hm)
set_option maxRecDepth 100000 in
set_option maxHeartbeats 4000000 in
theorem c_X2_sumInOrder {h : zH} {ad : Nat → Nat} (hI : zI ad zLX.length) (hst : h.1.stackTraces = false) {n : Nat} {v1 : Int32} {s s9 : zS} {r : Int32} (hm : m_X2_sumInOrder n v1 s = some (r, s9)) : zMR h ad zLX false yX2_sumInOrder wsX2_sumInOrder 1 21 [.ref (ad 16), .int v1] s (.inl r) s9 :=
  z_start (cc := cX2_sumInOrder) (nL := 7) (ret := (some .int)) (own := RX2) (by decide +kernel) rfl rfl hI hst (Nat.le_of_ble_eq_true rfl) (fun G C hQ => w_X2_sumInOrder_e C hQ _ hm)
set_option maxRecDepth 100000 in
theorem eX2_keepOrder_uX2 : ∀ w ∈ wsX20, w ∈ wsX2_keepOrder := by decide +kernel
set_option maxRecDepth 100000 in
theorem eX2_keepOrder_f24 : Cond.fieldLink RX2 24 RX2 (TX2 4).2.1 (TX2 4).2.2.1 ∈ wsX2_keepOrder := by decide +kernel
set_option maxRecDepth 100000 in
theorem eX2_keepOrder_f21 : Cond.fieldLink RX2 21 RX2 (TX2 3).2.1 (TX2 3).2.2.1 ∈ wsX2_keepOrder := by decide +kernel
set_option maxRecDepth 100000 in
theorem eX2_keepOrder_f18 : Cond.fieldLink RX2 18 RX2 (TX2 2).2.1 (TX2 2).2.2.1 ∈ wsX2_keepOrder := by decide +kernel
set_option maxRecDepth 100000 in
theorem eX2_keepOrder_tX7_at : Cond.static yX7_at ∈ wsX2_keepOrder := by decide +kernel
set_option maxRecDepth 100000 in
theorem eX2_keepOrder_iX7_at : Cond.initialized yX7_at.cls ∈ wsX2_keepOrder := by decide +kernel
set_option maxRecDepth 100000 in
theorem eX2_keepOrder_n32 : (RX2, 32, yX7_at, "TaxEngine") ∈ zN := by decide +kernel
set_option maxRecDepth 100000 in
theorem eX2_keepOrder_tX7_put : Cond.static yX7_put ∈ wsX2_keepOrder := by decide +kernel
set_option maxRecDepth 100000 in
theorem eX2_keepOrder_iX7_put : Cond.initialized yX7_put.cls ∈ wsX2_keepOrder := by decide +kernel
set_option maxRecDepth 100000 in
theorem eX2_keepOrder_n28 : (RX2, 28, yX7_put, "TaxEngine") ∈ zN := by decide +kernel
set_option maxRecDepth 100000 in
set_option maxHeartbeats 4000000 in
theorem w_X2_keepOrder_j2 {h : zH} {ad : Nat → Nat} {G : zG} (C : zC h ad zLX 2 G cX2_keepOrder RX2 wsX2_keepOrder 1 22) {n : Nat} {r : Int32} {s9 : zS} (hQ : zQ h ad zLX G true (.inl r) s9 none) : ∀ (f : Nat) (v1 : Int32) (s : zS), m_X2_keepOrder_j2 n f v1 s = some (r, s9) → zV h ad zLX 2 G s 2 [(0, .ref (ad 16)), (1, .int v1)] [] := by
  intro f
  induction f with
  | zero => intro v1 s hm; simp [m_X2_keepOrder_j2] at hm
  | succ f ih =>
    intro v1 s hm
    rw [m_X2_keepOrder_j2] at hm
    refine z_iload_n C dX2_keepOrder_2 rfl 1 rfl ?_
    refine z_aload_n C dX2_keepOrder_3 rfl 0 rfl ?_
    refine z_get C kX16 vc2 eX2_keepOrder_uX2 4 (by decide) rfl eX2_keepOrder_f24 rfl dX2_keepOrder_4 ?_
    refine z_icmp_ge (tgt := 32) C dX2_keepOrder_7 (by decide) (fun c1 => ?_) (fun c1 => ?_)
    · have hm := zIt hm c1
      exact z_vret0 C hQ (zRt_of hm).1 (zRt_of hm).2 dX2_keepOrder_32
    · have hm := zIf hm c1
      refine z_aload_n C dX2_keepOrder_10 rfl 0 rfl ?_
      refine z_getr C kX16 vc2 eX2_keepOrder_uX2 3 (by decide) rfl eX2_keepOrder_f21 rfl dX2_keepOrder_11 ?_
      refine z_iload_n C dX2_keepOrder_14 rfl 1 rfl ?_
      refine z_aload_n C dX2_keepOrder_15 rfl 0 rfl ?_
      refine z_getr C kX16 vc2 eX2_keepOrder_uX2 2 (by decide) rfl eX2_keepOrder_f18 rfl dX2_keepOrder_16 ?_
      refine z_iload_n C dX2_keepOrder_19 rfl 1 rfl ?_
      obtain ⟨x2, s3, q_s3, hm⟩ := zBd_of hm
      refine z_cSN (vd := false) (host := "TaxEngine") C 2 [.ref (ad 19), .int v1] [.int v1, .ref (ad 20)] (c_X7_at (zC_I C) (zC_st C) kX19 q_s3) gX2_keepOrder_X7_at_n32 eX2_keepOrder_n32 eX2_keepOrder_tX7_at eX2_keepOrder_iX7_at (by decide +kernel) rfl dX2_keepOrder_20 rfl ⟨Nat.le_of_ble_eq_true rfl, Nat.le_of_ble_eq_true rfl⟩ rfl (Nat.le_of_ble_eq_true rfl) ?_
      obtain ⟨x4, s5, q_s5, hm⟩ := zBd_of hm
      refine z_cSN (vd := true) (host := "TaxEngine") C 3 [.ref (ad 20), .int v1, .int x2] [] (c_X7_put (zC_I C) (zC_st C) kX20 q_s5) gX2_keepOrder_X7_put_n28 eX2_keepOrder_n28 eX2_keepOrder_tX7_put eX2_keepOrder_iX7_put (by decide +kernel) rfl dX2_keepOrder_23 rfl ⟨Nat.le_of_ble_eq_true rfl, Nat.le_of_ble_eq_true rfl⟩ rfl (Nat.le_of_ble_eq_true rfl) ?_
      obtain ⟨x6, e_x6, hm⟩ := zLt_of hm
      refine z_iinc (j := 1) (v := x6) (d := (1 : Int32)) (lv' := [(1, .int x6), (0, .ref (ad 16))]) C dX2_keepOrder_26 rfl (by decide) e_x6 (by decide) rfl ?_
      refine z_goto (tgt := 2) C dX2_keepOrder_29 (by decide) ?_
      exact z_sub [1, 0] rfl (ih _ _ hm)
set_option maxRecDepth 100000 in
set_option maxHeartbeats 4000000 in
theorem w_X2_keepOrder_e {h : zH} {ad : Nat → Nat} {G : zG} (C : zC h ad zLX 2 G cX2_keepOrder RX2 wsX2_keepOrder 1 22) {n : Nat} {r : Int32} {s9 : zS} (hQ : zQ h ad zLX G true (.inl r) s9 none)  (s : zS) (hm : m_X2_keepOrder n s = some (r, s9)) : zV h ad zLX 2 G s 0 [(0, .ref (ad 16))] [] := by
  rw [m_X2_keepOrder] at hm
  refine z_iconst (v := (0 : Int32)) C dX2_keepOrder_0 (by decide) ?_
  refine z_istore_n (y := (0 : Int32)) (lv' := [(1, .int (0 : Int32)), (0, .ref (ad 16))]) C dX2_keepOrder_1 rfl (by decide) rfl rfl ?_
  exact z_sub [1, 0] rfl (w_X2_keepOrder_j2 C hQ  _ _ _ hm)
set_option maxRecDepth 100000 in
set_option maxHeartbeats 4000000 in
theorem c_X2_keepOrder {h : zH} {ad : Nat → Nat} (hI : zI ad zLX.length) (hst : h.1.stackTraces = false) {n : Nat} {s s9 : zS} {r : Int32} (hm : m_X2_keepOrder n s = some (r, s9)) : zMR h ad zLX true yX2_keepOrder wsX2_keepOrder 1 22 [.ref (ad 16)] s (.inl r) s9 :=
  z_start (cc := cX2_keepOrder) (nL := 2) (ret := none) (own := RX2) (by decide +kernel) rfl rfl hI hst (Nat.le_of_ble_eq_true rfl) (fun G C hQ => w_X2_keepOrder_e C hQ _ hm)
set_option maxRecDepth 100000 in
theorem eX2_swap_uX2 : ∀ w ∈ wsX20, w ∈ wsX2_swap := by decide +kernel
set_option maxRecDepth 100000 in
theorem eX2_swap_f18 : Cond.fieldLink RX2 18 RX2 (TX2 2).2.1 (TX2 2).2.2.1 ∈ wsX2_swap := by decide +kernel
set_option maxRecDepth 100000 in
theorem eX2_swap_tX7_at : Cond.static yX7_at ∈ wsX2_swap := by decide +kernel
set_option maxRecDepth 100000 in
theorem eX2_swap_iX7_at : Cond.initialized yX7_at.cls ∈ wsX2_swap := by decide +kernel
set_option maxRecDepth 100000 in
theorem eX2_swap_n32 : (RX2, 32, yX7_at, "TaxEngine") ∈ zN := by decide +kernel
set_option maxRecDepth 100000 in
theorem eX2_swap_tX7_put : Cond.static yX7_put ∈ wsX2_swap := by decide +kernel
set_option maxRecDepth 100000 in
theorem eX2_swap_iX7_put : Cond.initialized yX7_put.cls ∈ wsX2_swap := by decide +kernel
set_option maxRecDepth 100000 in
theorem eX2_swap_n28 : (RX2, 28, yX7_put, "TaxEngine") ∈ zN := by decide +kernel
set_option maxRecDepth 100000 in
set_option maxHeartbeats 4000000 in
theorem w_X2_swap_e {h : zH} {ad : Nat → Nat} {G : zG} (C : zC h ad zLX 4 G cX2_swap RX2 wsX2_swap 1 22) {n : Nat} {r : Int32} {s9 : zS} (hQ : zQ h ad zLX G true (.inl r) s9 none) {v1 : Int32} {v2 : Int32} (s : zS) (hm : m_X2_swap n v1 v2 s = some (r, s9)) : zV h ad zLX 4 G s 0 [(0, .ref (ad 16)), (1, .int v1), (2, .int v2)] [] := by
  rw [m_X2_swap] at hm
  refine z_aload_n C dX2_swap_0 rfl 0 rfl ?_
  refine z_getr C kX16 vc2 eX2_swap_uX2 2 (by decide) rfl eX2_swap_f18 rfl dX2_swap_1 ?_
  refine z_iload_n C dX2_swap_4 rfl 1 rfl ?_
  obtain ⟨x1, s2, q_s2, hm⟩ := zBd_of hm
  refine z_cSN (vd := false) (host := "TaxEngine") C 2 [.ref (ad 19), .int v1] [] (c_X7_at (zC_I C) (zC_st C) kX19 q_s2) gX2_swap_X7_at_n32 eX2_swap_n32 eX2_swap_tX7_at eX2_swap_iX7_at (by decide +kernel) rfl dX2_swap_5 rfl ⟨Nat.le_of_ble_eq_true rfl, Nat.le_of_ble_eq_true rfl⟩ rfl (Nat.le_of_ble_eq_true rfl) ?_
  refine z_istore_n (y := x1) (lv' := [(3, .int x1), (0, .ref (ad 16)), (1, .int v1), (2, .int v2)]) C dX2_swap_8 rfl (by decide) rfl rfl ?_
  refine z_aload_n C dX2_swap_9 rfl 1 rfl ?_
  refine z_getr C kX16 vc2 eX2_swap_uX2 2 (by decide) rfl eX2_swap_f18 rfl dX2_swap_10 ?_
  refine z_iload_n C dX2_swap_13 rfl 2 rfl ?_
  refine z_aload_n C dX2_swap_14 rfl 1 rfl ?_
  refine z_getr C kX16 vc2 eX2_swap_uX2 2 (by decide) rfl eX2_swap_f18 rfl dX2_swap_15 ?_
  refine z_iload_n C dX2_swap_18 rfl 3 rfl ?_
  obtain ⟨x3, s4, q_s4, hm⟩ := zBd_of hm
  refine z_cSN (vd := false) (host := "TaxEngine") C 2 [.ref (ad 19), .int v2] [.int v1, .ref (ad 19)] (c_X7_at (zC_I C) (zC_st C) kX19 q_s4) gX2_swap_X7_at_n32 eX2_swap_n32 eX2_swap_tX7_at eX2_swap_iX7_at (by decide +kernel) rfl dX2_swap_19 rfl ⟨Nat.le_of_ble_eq_true rfl, Nat.le_of_ble_eq_true rfl⟩ rfl (Nat.le_of_ble_eq_true rfl) ?_
  obtain ⟨x5, s6, q_s6, hm⟩ := zBd_of hm
  refine z_cSN (vd := true) (host := "TaxEngine") C 3 [.ref (ad 19), .int v1, .int x3] [] (c_X7_put (zC_I C) (zC_st C) kX19 q_s6) gX2_swap_X7_put_n28 eX2_swap_n28 eX2_swap_tX7_put eX2_swap_iX7_put (by decide +kernel) rfl dX2_swap_22 rfl ⟨Nat.le_of_ble_eq_true rfl, Nat.le_of_ble_eq_true rfl⟩ rfl (Nat.le_of_ble_eq_true rfl) ?_
  refine z_aload_n C dX2_swap_25 rfl 1 rfl ?_
  refine z_getr C kX16 vc2 eX2_swap_uX2 2 (by decide) rfl eX2_swap_f18 rfl dX2_swap_26 ?_
  refine z_iload_n C dX2_swap_29 rfl 3 rfl ?_
  refine z_iload_n C dX2_swap_30 rfl 0 rfl ?_
  obtain ⟨x7, s8, q_s8, hm⟩ := zBd_of hm
  refine z_cSN (vd := true) (host := "TaxEngine") C 3 [.ref (ad 19), .int v2, .int x1] [] (c_X7_put (zC_I C) (zC_st C) kX19 q_s8) gX2_swap_X7_put_n28 eX2_swap_n28 eX2_swap_tX7_put eX2_swap_iX7_put (by decide +kernel) rfl dX2_swap_31 rfl ⟨Nat.le_of_ble_eq_true rfl, Nat.le_of_ble_eq_true rfl⟩ rfl (Nat.le_of_ble_eq_true rfl) ?_
  exact z_vret0 C hQ (zRt_of hm).1 (zRt_of hm).2 dX2_swap_34
set_option maxRecDepth 100000 in
set_option maxHeartbeats 4000000 in
theorem c_X2_swap {h : zH} {ad : Nat → Nat} (hI : zI ad zLX.length) (hst : h.1.stackTraces = false) {n : Nat} {v1 : Int32} {v2 : Int32} {s s9 : zS} {r : Int32} (hm : m_X2_swap n v1 v2 s = some (r, s9)) : zMR h ad zLX true yX2_swap wsX2_swap 1 22 [.ref (ad 16), .int v1, .int v2] s (.inl r) s9 :=
  z_start (cc := cX2_swap) (nL := 4) (ret := none) (own := RX2) (by decide +kernel) rfl rfl hI hst (Nat.le_of_ble_eq_true rfl) (fun G C hQ => w_X2_swap_e C hQ _ hm)
set_option maxRecDepth 100000 in
theorem eX2_toNextOrder_uX2 : ∀ w ∈ wsX20, w ∈ wsX2_toNextOrder := by decide +kernel
set_option maxRecDepth 100000 in
theorem eX2_toNextOrder_f24 : Cond.fieldLink RX2 24 RX2 (TX2 4).2.1 (TX2 4).2.2.1 ∈ wsX2_toNextOrder := by decide +kernel
set_option maxRecDepth 100000 in
theorem eX2_toNextOrder_f18 : Cond.fieldLink RX2 18 RX2 (TX2 2).2.1 (TX2 2).2.2.1 ∈ wsX2_toNextOrder := by decide +kernel
set_option maxRecDepth 100000 in
theorem eX2_toNextOrder_tX7_at : Cond.static yX7_at ∈ wsX2_toNextOrder := by decide +kernel
set_option maxRecDepth 100000 in
theorem eX2_toNextOrder_iX7_at : Cond.initialized yX7_at.cls ∈ wsX2_toNextOrder := by decide +kernel
set_option maxRecDepth 100000 in
theorem eX2_toNextOrder_n32 : (RX2, 32, yX7_at, "TaxEngine") ∈ zN := by decide +kernel
set_option maxRecDepth 100000 in
set_option maxHeartbeats 4000000 in
theorem w_X2_toNextOrder_j99 {h : zH} {ad : Nat → Nat} {G : zG} (C : zC h ad zLX 5 G cX2_toNextOrder RX2 wsX2_toNextOrder 2 45) {n : Nat} {r : Int32} {s9 : zS} (hQ : zQ h ad zLX G false (.inl r) s9 (some .boolean)) : ∀ (f : Nat) (v3 : Int32) (v4 : Int32) (s : zS), m_X2_toNextOrder_j99 n f v3 v4 s = some (r, s9) → zV h ad zLX 5 G s 99 [(0, .ref (ad 16)), (3, .int v3), (4, .int v4)] [] := by
  intro f
  induction f with
  | zero => intro v3 v4 s hm; simp [m_X2_toNextOrder_j99] at hm
  | succ f ih =>
    intro v3 v4 s hm
    rw [m_X2_toNextOrder_j99] at hm
    refine z_iload_n C dX2_toNextOrder_99 rfl 1 rfl ?_
    refine z_iload C dX2_toNextOrder_100 2 rfl ?_
    refine z_icmp_ge (tgt := 121) C dX2_toNextOrder_102 (by decide) (fun c1 => ?_) (fun c1 => ?_)
    · have hm := zIt hm c1
      refine z_iconst (v := (1 : Int32)) C dX2_toNextOrder_121 (by decide) ?_
      exact z_zret0 C hQ (zRt_of hm).1 (zRt_of hm).2 (by decide) dX2_toNextOrder_122
    · have hm := zIf hm c1
      refine z_aload_n C dX2_toNextOrder_105 rfl 0 rfl ?_
      refine z_iload_n C dX2_toNextOrder_106 rfl 1 rfl ?_
      refine z_iload C dX2_toNextOrder_107 2 rfl ?_
      obtain ⟨x2, s3, q_s3, hm⟩ := zBd_of hm
      refine z_cV (vd := true) (Cn := RX2) (k := 16) C 2 [.int v3, .int v4] [] (c_X2_swap (zC_I C) (zC_st C)  q_s3) gX2_toNextOrder_X2_swap (by decide +kernel) kX16 vc2 rfl rfl dX2_toNextOrder_109 rfl ⟨Nat.le_of_ble_eq_true rfl, Nat.le_of_ble_eq_true rfl⟩ rfl (Nat.le_of_ble_eq_true rfl) ?_
      obtain ⟨x4, e_x4, hm⟩ := zLt_of hm
      refine z_iinc (j := 1) (v := x4) (d := (1 : Int32)) (lv' := [(3, .int x4), (0, .ref (ad 16)), (4, .int v4)]) C dX2_toNextOrder_112 rfl (by decide) e_x4 (by decide) rfl ?_
      obtain ⟨x5, e_x5, hm⟩ := zLt_of hm
      refine z_iinc (j := 2) (v := x5) (d := (-1 : Int32)) (lv' := [(4, .int x5), (3, .int x4), (0, .ref (ad 16))]) C dX2_toNextOrder_115 rfl (by decide) e_x5 (by decide) rfl ?_
      refine z_goto (tgt := 99) C dX2_toNextOrder_118 (by decide) ?_
      exact z_sub [2, 1, 0] rfl (ih _ _ _ hm)
set_option maxRecDepth 100000 in
set_option maxHeartbeats 4000000 in
theorem w_X2_toNextOrder_j81 {h : zH} {ad : Nat → Nat} {G : zG} (C : zC h ad zLX 5 G cX2_toNextOrder RX2 wsX2_toNextOrder 2 45) {n : Nat} {r : Int32} {s9 : zS} (hQ : zQ h ad zLX G false (.inl r) s9 (some .boolean)) (v1 : Int32) (v2 : Int32) (s : zS) (hm : m_X2_toNextOrder_j81 n v1 v2 s = some (r, s9)) : zV h ad zLX 5 G s 81 [(0, .ref (ad 16)), (1, .int v1), (2, .int v2)] [] := by
  rw [m_X2_toNextOrder_j81] at hm
  refine z_aload_n C dX2_toNextOrder_81 rfl 0 rfl ?_
  refine z_iload_n C dX2_toNextOrder_82 rfl 1 rfl ?_
  refine z_iload_n C dX2_toNextOrder_83 rfl 2 rfl ?_
  obtain ⟨x6, s7, q_s7, hm⟩ := zBd_of hm
  refine z_cV (vd := true) (Cn := RX2) (k := 16) C 2 [.int v1, .int v2] [] (c_X2_swap (zC_I C) (zC_st C)  q_s7) gX2_toNextOrder_X2_swap (by decide +kernel) kX16 vc2 rfl rfl dX2_toNextOrder_84 rfl ⟨Nat.le_of_ble_eq_true rfl, Nat.le_of_ble_eq_true rfl⟩ rfl (Nat.le_of_ble_eq_true rfl) ?_
  refine z_iload_n C dX2_toNextOrder_87 rfl 1 rfl ?_
  refine z_iconst (v := (1 : Int32)) C dX2_toNextOrder_88 (by decide) ?_
  refine z_iadd C dX2_toNextOrder_89 ?_
  obtain ⟨x8, e_x8, hm⟩ := zLt_of hm
  refine z_istore_n (y := x8) (lv' := [(3, .int x8), (0, .ref (ad 16)), (1, .int v1), (2, .int v2)]) C dX2_toNextOrder_90 rfl (by decide) e_x8 rfl ?_
  refine z_aload_n C dX2_toNextOrder_91 rfl 1 rfl ?_
  refine z_get C kX16 vc2 eX2_toNextOrder_uX2 4 (by decide) rfl eX2_toNextOrder_f24 rfl dX2_toNextOrder_92 ?_
  refine z_iconst (v := (1 : Int32)) C dX2_toNextOrder_95 (by decide) ?_
  refine z_isub C dX2_toNextOrder_96 ?_
  obtain ⟨x9, e_x9, hm⟩ := zLt_of hm
  refine z_istore (y := x9) (lv' := [(4, .int x9), (3, .int x8), (0, .ref (ad 16)), (1, .int v1), (2, .int v2)]) C dX2_toNextOrder_97 (by decide) e_x9 rfl ?_
  exact z_sub [2, 1, 0] rfl (w_X2_toNextOrder_j99 C hQ  _ _ _ _ hm)
set_option maxRecDepth 100000 in
set_option maxHeartbeats 4000000 in
theorem w_X2_toNextOrder_j51 {h : zH} {ad : Nat → Nat} {G : zG} (C : zC h ad zLX 5 G cX2_toNextOrder RX2 wsX2_toNextOrder 2 45) {n : Nat} {r : Int32} {s9 : zS} (hQ : zQ h ad zLX G false (.inl r) s9 (some .boolean)) : ∀ (f : Nat) (v1 : Int32) (v2 : Int32) (s : zS), m_X2_toNextOrder_j51 n f v1 v2 s = some (r, s9) → zV h ad zLX 5 G s 51 [(0, .ref (ad 16)), (1, .int v1), (2, .int v2)] [] := by
  intro f
  induction f with
  | zero => intro v1 v2 s hm; simp [m_X2_toNextOrder_j51] at hm
  | succ f ih =>
    intro v1 v2 s hm
    rw [m_X2_toNextOrder_j51] at hm
    refine z_iload_n C dX2_toNextOrder_51 rfl 2 rfl ?_
    refine z_iload_n C dX2_toNextOrder_52 rfl 1 rfl ?_
    refine z_icmp_le (tgt := 81) C dX2_toNextOrder_53 (by decide) (fun c10 => ?_) (fun c10 => ?_)
    · have hm := zIt hm c10
      exact z_sub [0, 1, 2] rfl (w_X2_toNextOrder_j81 C hQ  _ _ _ hm)
    · have hm := zIf hm c10
      refine z_aload_n C dX2_toNextOrder_56 rfl 0 rfl ?_
      refine z_getr C kX16 vc2 eX2_toNextOrder_uX2 2 (by decide) rfl eX2_toNextOrder_f18 rfl dX2_toNextOrder_57 ?_
      refine z_iload_n C dX2_toNextOrder_60 rfl 2 rfl ?_
      obtain ⟨x11, s12, q_s12, hm⟩ := zBd_of hm
      refine z_cSN (vd := false) (host := "TaxEngine") C 2 [.ref (ad 19), .int v2] [] (c_X7_at (zC_I C) (zC_st C) kX19 q_s12) gX2_toNextOrder_X7_at_n32 eX2_toNextOrder_n32 eX2_toNextOrder_tX7_at eX2_toNextOrder_iX7_at (by decide +kernel) rfl dX2_toNextOrder_61 rfl ⟨Nat.le_of_ble_eq_true rfl, Nat.le_of_ble_eq_true rfl⟩ rfl (Nat.le_of_ble_eq_true rfl) ?_
      refine z_aload_n C dX2_toNextOrder_64 rfl 0 rfl ?_
      refine z_getr C kX16 vc2 eX2_toNextOrder_uX2 2 (by decide) rfl eX2_toNextOrder_f18 rfl dX2_toNextOrder_65 ?_
      refine z_iload_n C dX2_toNextOrder_68 rfl 1 rfl ?_
      obtain ⟨x13, s14, q_s14, hm⟩ := zBd_of hm
      refine z_cSN (vd := false) (host := "TaxEngine") C 2 [.ref (ad 19), .int v1] [.int x11] (c_X7_at (zC_I C) (zC_st C) kX19 q_s14) gX2_toNextOrder_X7_at_n32 eX2_toNextOrder_n32 eX2_toNextOrder_tX7_at eX2_toNextOrder_iX7_at (by decide +kernel) rfl dX2_toNextOrder_69 rfl ⟨Nat.le_of_ble_eq_true rfl, Nat.le_of_ble_eq_true rfl⟩ rfl (Nat.le_of_ble_eq_true rfl) ?_
      refine z_icmp_ge (tgt := 81) C dX2_toNextOrder_72 (by decide) (fun c15 => ?_) (fun c15 => ?_)
      · have hm := zIt hm c15
        exact z_sub [0, 1, 2] rfl (w_X2_toNextOrder_j81 C hQ  _ _ _ hm)
      · have hm := zIf hm c15
        obtain ⟨x16, e_x16, hm⟩ := zLt_of hm
        refine z_iinc (j := 2) (v := x16) (d := (-1 : Int32)) (lv' := [(2, .int x16), (0, .ref (ad 16)), (1, .int v1)]) C dX2_toNextOrder_75 rfl (by decide) e_x16 (by decide) rfl ?_
        refine z_goto (tgt := 51) C dX2_toNextOrder_78 (by decide) ?_
        exact z_sub [1, 2, 0] rfl (ih _ _ _ hm)
set_option maxRecDepth 100000 in
set_option maxHeartbeats 4000000 in
theorem w_X2_toNextOrder_j38 {h : zH} {ad : Nat → Nat} {G : zG} (C : zC h ad zLX 5 G cX2_toNextOrder RX2 wsX2_toNextOrder 2 45) {n : Nat} {r : Int32} {s9 : zS} (hQ : zQ h ad zLX G false (.inl r) s9 (some .boolean)) (v1 : Int32) (s : zS) (hm : m_X2_toNextOrder_j38 n v1 s = some (r, s9)) : zV h ad zLX 5 G s 38 [(0, .ref (ad 16)), (1, .int v1)] [] := by
  rw [m_X2_toNextOrder_j38] at hm
  refine z_iload_n C dX2_toNextOrder_38 rfl 1 rfl ?_
  refine z_if_ge (tgt := 44) C dX2_toNextOrder_39 (by decide) (fun c17 => ?_) (fun c17 => ?_)
  · have hm := zIt hm c17
    refine z_aload_n C dX2_toNextOrder_44 rfl 0 rfl ?_
    refine z_get C kX16 vc2 eX2_toNextOrder_uX2 4 (by decide) rfl eX2_toNextOrder_f24 rfl dX2_toNextOrder_45 ?_
    refine z_iconst (v := (1 : Int32)) C dX2_toNextOrder_48 (by decide) ?_
    refine z_isub C dX2_toNextOrder_49 ?_
    obtain ⟨x18, e_x18, hm⟩ := zLt_of hm
    refine z_istore_n (y := x18) (lv' := [(2, .int x18), (0, .ref (ad 16)), (1, .int v1)]) C dX2_toNextOrder_50 rfl (by decide) e_x18 rfl ?_
    exact z_sub [1, 2, 0] rfl (w_X2_toNextOrder_j51 C hQ  _ _ _ _ hm)
  · have hm := zIf hm c17
    refine z_iconst (v := (0 : Int32)) C dX2_toNextOrder_42 (by decide) ?_
    exact z_zret0 C hQ (zRt_of hm).1 (zRt_of hm).2 (by decide) dX2_toNextOrder_43
set_option maxRecDepth 100000 in
set_option maxHeartbeats 4000000 in
theorem w_X2_toNextOrder_j7 {h : zH} {ad : Nat → Nat} {G : zG} (C : zC h ad zLX 5 G cX2_toNextOrder RX2 wsX2_toNextOrder 2 45) {n : Nat} {r : Int32} {s9 : zS} (hQ : zQ h ad zLX G false (.inl r) s9 (some .boolean)) : ∀ (f : Nat) (v1 : Int32) (s : zS), m_X2_toNextOrder_j7 n f v1 s = some (r, s9) → zV h ad zLX 5 G s 7 [(0, .ref (ad 16)), (1, .int v1)] [] := by
  intro f
  induction f with
  | zero => intro v1 s hm; simp [m_X2_toNextOrder_j7] at hm
  | succ f ih =>
    intro v1 s hm
    rw [m_X2_toNextOrder_j7] at hm
    refine z_iload_n C dX2_toNextOrder_7 rfl 1 rfl ?_
    refine z_if_lt (tgt := 38) C dX2_toNextOrder_8 (by decide) (fun c19 => ?_) (fun c19 => ?_)
    · have hm := zIt hm c19
      exact z_sub [0, 1] rfl (w_X2_toNextOrder_j38 C hQ  _ _ hm)
    · have hm := zIf hm c19
      refine z_aload_n C dX2_toNextOrder_11 rfl 0 rfl ?_
      refine z_getr C kX16 vc2 eX2_toNextOrder_uX2 2 (by decide) rfl eX2_toNextOrder_f18 rfl dX2_toNextOrder_12 ?_
      refine z_iload_n C dX2_toNextOrder_15 rfl 1 rfl ?_
      obtain ⟨x20, s21, q_s21, hm⟩ := zBd_of hm
      refine z_cSN (vd := false) (host := "TaxEngine") C 2 [.ref (ad 19), .int v1] [] (c_X7_at (zC_I C) (zC_st C) kX19 q_s21) gX2_toNextOrder_X7_at_n32 eX2_toNextOrder_n32 eX2_toNextOrder_tX7_at eX2_toNextOrder_iX7_at (by decide +kernel) rfl dX2_toNextOrder_16 rfl ⟨Nat.le_of_ble_eq_true rfl, Nat.le_of_ble_eq_true rfl⟩ rfl (Nat.le_of_ble_eq_true rfl) ?_
      refine z_aload_n C dX2_toNextOrder_19 rfl 0 rfl ?_
      refine z_getr C kX16 vc2 eX2_toNextOrder_uX2 2 (by decide) rfl eX2_toNextOrder_f18 rfl dX2_toNextOrder_20 ?_
      refine z_iload_n C dX2_toNextOrder_23 rfl 1 rfl ?_
      refine z_iconst (v := (1 : Int32)) C dX2_toNextOrder_24 (by decide) ?_
      refine z_iadd C dX2_toNextOrder_25 ?_
      obtain ⟨x22, s23, q_s23, hm⟩ := zBd_of hm
      refine z_cSN (vd := false) (host := "TaxEngine") C 2 [.ref (ad 19), .int (v1 + (1 : Int32))] [.int x20] (c_X7_at (zC_I C) (zC_st C) kX19 q_s23) gX2_toNextOrder_X7_at_n32 eX2_toNextOrder_n32 eX2_toNextOrder_tX7_at eX2_toNextOrder_iX7_at (by decide +kernel) rfl dX2_toNextOrder_26 rfl ⟨Nat.le_of_ble_eq_true rfl, Nat.le_of_ble_eq_true rfl⟩ rfl (Nat.le_of_ble_eq_true rfl) ?_
      refine z_icmp_le (tgt := 38) C dX2_toNextOrder_29 (by decide) (fun c24 => ?_) (fun c24 => ?_)
      · have hm := zIt hm c24
        exact z_sub [0, 1] rfl (w_X2_toNextOrder_j38 C hQ  _ _ hm)
      · have hm := zIf hm c24
        obtain ⟨x25, e_x25, hm⟩ := zLt_of hm
        refine z_iinc (j := 1) (v := x25) (d := (-1 : Int32)) (lv' := [(1, .int x25), (0, .ref (ad 16))]) C dX2_toNextOrder_32 rfl (by decide) e_x25 (by decide) rfl ?_
        refine z_goto (tgt := 7) C dX2_toNextOrder_35 (by decide) ?_
        exact z_sub [1, 0] rfl (ih _ _ hm)
set_option maxRecDepth 100000 in
set_option maxHeartbeats 4000000 in
theorem w_X2_toNextOrder_e {h : zH} {ad : Nat → Nat} {G : zG} (C : zC h ad zLX 5 G cX2_toNextOrder RX2 wsX2_toNextOrder 2 45) {n : Nat} {r : Int32} {s9 : zS} (hQ : zQ h ad zLX G false (.inl r) s9 (some .boolean))  (s : zS) (hm : m_X2_toNextOrder n s = some (r, s9)) : zV h ad zLX 5 G s 0 [(0, .ref (ad 16))] [] := by
  rw [m_X2_toNextOrder] at hm
  refine z_aload_n C dX2_toNextOrder_0 rfl 0 rfl ?_
  refine z_get C kX16 vc2 eX2_toNextOrder_uX2 4 (by decide) rfl eX2_toNextOrder_f24 rfl dX2_toNextOrder_1 ?_
  refine z_iconst (v := (2 : Int32)) C dX2_toNextOrder_4 (by decide) ?_
  refine z_isub C dX2_toNextOrder_5 ?_
  obtain ⟨x26, e_x26, hm⟩ := zLt_of hm
  refine z_istore_n (y := x26) (lv' := [(1, .int x26), (0, .ref (ad 16))]) C dX2_toNextOrder_6 rfl (by decide) e_x26 rfl ?_
  exact z_sub [1, 0] rfl (w_X2_toNextOrder_j7 C hQ  _ _ _ hm)
set_option maxRecDepth 100000 in
set_option maxHeartbeats 4000000 in
theorem c_X2_toNextOrder {h : zH} {ad : Nat → Nat} (hI : zI ad zLX.length) (hst : h.1.stackTraces = false) {n : Nat} {s s9 : zS} {r : Int32} (hm : m_X2_toNextOrder n s = some (r, s9)) : zMR h ad zLX false yX2_toNextOrder wsX2_toNextOrder 2 45 [.ref (ad 16)] s (.inl r) s9 :=
  z_start (cc := cX2_toNextOrder) (nL := 5) (ret := (some .boolean)) (own := RX2) (by decide +kernel) rfl rfl hI hst (Nat.le_of_ble_eq_true rfl) (fun G C hQ => w_X2_toNextOrder_e C hQ _ hm)
set_option maxRecDepth 100000 in
theorem eX2_findBest_uX2 : ∀ w ∈ wsX20, w ∈ wsX2_findBest := by decide +kernel
set_option maxRecDepth 100000 in
theorem eX2_findBest_f18 : Cond.fieldLink RX2 18 RX2 (TX2 2).2.1 (TX2 2).2.2.1 ∈ wsX2_findBest := by decide +kernel
set_option maxRecDepth 100000 in
theorem eX2_findBest_tX7_put : Cond.static yX7_put ∈ wsX2_findBest := by decide +kernel
set_option maxRecDepth 100000 in
theorem eX2_findBest_iX7_put : Cond.initialized yX7_put.cls ∈ wsX2_findBest := by decide +kernel
set_option maxRecDepth 100000 in
theorem eX2_findBest_n28 : (RX2, 28, yX7_put, "TaxEngine") ∈ zN := by decide +kernel
set_option maxRecDepth 100000 in
set_option maxHeartbeats 4000000 in
theorem w_X2_findBest_j29 {h : zH} {ad : Nat → Nat} {G : zG} (C : zC h ad zLX 6 G cX2_findBest RX2 wsX2_findBest 3 69) {n : Nat} {r : Int32} {s9 : zS} (hQ : zQ h ad zLX G false (.inl r) s9 (some .int)) : ∀ (f : Nat) (v1 : Int32) (v2 : Int32) (v3 : Int32) (v4 : Int32) (s : zS), m_X2_findBest_j29 n f v1 v2 v3 v4 s = some (r, s9) → zV h ad zLX 6 G s 29 [(0, .ref (ad 16)), (1, .int v1), (2, .int v2), (3, .int v3), (4, .int v4)] [] := by
  intro f
  induction f with
  | zero => intro v1 v2 v3 v4 s hm; simp [m_X2_findBest_j29] at hm
  | succ f ih =>
    intro v1 v2 v3 v4 s hm
    rw [m_X2_findBest_j29] at hm
    refine z_iload C dX2_findBest_29 4 rfl ?_
    refine z_bipush (v := (120 : Int32)) C dX2_findBest_31 (by decide) ?_
    refine z_icmp_ge (tgt := 71) C dX2_findBest_33 (by decide) (fun c1 => ?_) (fun c1 => ?_)
    · have hm := zIt hm c1
      refine z_iload_n C dX2_findBest_71 rfl 2 rfl ?_
      exact z_iret0 C hQ (zRt_of hm).1 (zRt_of hm).2 dX2_findBest_72
    · have hm := zIf hm c1
      refine z_iload_n C dX2_findBest_36 rfl 3 rfl ?_
      refine z_if_eq (tgt := 71) C dX2_findBest_37 (by decide) (fun c2 => ?_) (fun c2 => ?_)
      · have hm := zIt hm c2
        refine z_iload_n C dX2_findBest_71 rfl 2 rfl ?_
        exact z_iret0 C hQ (zRt_of hm).1 (zRt_of hm).2 dX2_findBest_72
      · have hm := zIf hm c2
        refine z_aload_n C dX2_findBest_40 rfl 0 rfl ?_
        refine z_iload_n C dX2_findBest_41 rfl 1 rfl ?_
        obtain ⟨x3, s4, q_s4, hm⟩ := zBd_of hm
        refine z_cV (vd := false) (Cn := RX2) (k := 16) C 1 [.int v1] [] (c_X2_sumInOrder (zC_I C) (zC_st C)  q_s4) gX2_findBest_X2_sumInOrder (by decide +kernel) kX16 vc2 rfl rfl dX2_findBest_42 rfl ⟨Nat.le_of_ble_eq_true rfl, Nat.le_of_ble_eq_true rfl⟩ rfl (Nat.le_of_ble_eq_true rfl) ?_
        refine z_istore (y := x3) (lv' := [(5, .int x3), (0, .ref (ad 16)), (1, .int v1), (2, .int v2), (3, .int v3), (4, .int v4)]) C dX2_findBest_45 (by decide) rfl rfl ?_
        refine z_iload C dX2_findBest_47 0 rfl ?_
        refine z_iload_n C dX2_findBest_49 rfl 3 rfl ?_
        refine z_icmp_le (tgt := 60) C dX2_findBest_50 (by decide) (fun c5 => ?_) (fun c5 => ?_)
        · have hm := zIt hm c5
          refine z_aload_n C dX2_findBest_60 rfl 1 rfl ?_
          obtain ⟨x6, s7, q_s7, hm⟩ := zBd_of hm
          refine z_cV (vd := false) (Cn := RX2) (k := 16) C 0 [] [] (c_X2_toNextOrder (zC_I C) (zC_st C)  q_s7) gX2_findBest_X2_toNextOrder (by decide +kernel) kX16 vc2 rfl rfl dX2_findBest_61 rfl ⟨Nat.le_of_ble_eq_true rfl, Nat.le_of_ble_eq_true rfl⟩ rfl (Nat.le_of_ble_eq_true rfl) ?_
          refine z_istore_n (y := x6) (lv' := [(3, .int x6), (5, .int x3), (0, .ref (ad 16)), (1, .int v1), (2, .int v2), (4, .int v4)]) C dX2_findBest_64 rfl (by decide) rfl rfl ?_
          obtain ⟨x8, e_x8, hm⟩ := zLt_of hm
          refine z_iinc (j := 5) (v := x8) (d := (1 : Int32)) (lv' := [(4, .int x8), (3, .int x6), (5, .int x3), (0, .ref (ad 16)), (1, .int v1), (2, .int v2)]) C dX2_findBest_65 rfl (by decide) e_x8 (by decide) rfl ?_
          refine z_goto (tgt := 29) C dX2_findBest_68 (by decide) ?_
          exact z_sub [3, 4, 5, 1, 0] rfl (ih _ _ _ _ _ hm)
        · have hm := zIf hm c5
          refine z_iload C dX2_findBest_53 0 rfl ?_
          refine z_istore_n (y := x3) (lv' := [(2, .int x3), (5, .int x3), (0, .ref (ad 16)), (1, .int v1), (3, .int v3), (4, .int v4)]) C dX2_findBest_55 rfl (by decide) rfl rfl ?_
          refine z_aload_n C dX2_findBest_56 rfl 2 rfl ?_
          obtain ⟨x9, s10, q_s10, hm⟩ := zBd_of hm
          refine z_cV (vd := true) (Cn := RX2) (k := 16) C 0 [] [] (c_X2_keepOrder (zC_I C) (zC_st C)  q_s10) gX2_findBest_X2_keepOrder (by decide +kernel) kX16 vc2 rfl rfl dX2_findBest_57 rfl ⟨Nat.le_of_ble_eq_true rfl, Nat.le_of_ble_eq_true rfl⟩ rfl (Nat.le_of_ble_eq_true rfl) ?_
          refine z_aload_n C dX2_findBest_60 rfl 2 rfl ?_
          obtain ⟨x11, s12, q_s12, hm⟩ := zBd_of hm
          refine z_cV (vd := false) (Cn := RX2) (k := 16) C 0 [] [] (c_X2_toNextOrder (zC_I C) (zC_st C)  q_s12) gX2_findBest_X2_toNextOrder (by decide +kernel) kX16 vc2 rfl rfl dX2_findBest_61 rfl ⟨Nat.le_of_ble_eq_true rfl, Nat.le_of_ble_eq_true rfl⟩ rfl (Nat.le_of_ble_eq_true rfl) ?_
          refine z_istore_n (y := x11) (lv' := [(3, .int x11), (2, .int x3), (5, .int x3), (0, .ref (ad 16)), (1, .int v1), (4, .int v4)]) C dX2_findBest_64 rfl (by decide) rfl rfl ?_
          obtain ⟨x13, e_x13, hm⟩ := zLt_of hm
          refine z_iinc (j := 5) (v := x13) (d := (1 : Int32)) (lv' := [(4, .int x13), (3, .int x11), (2, .int x3), (5, .int x3), (0, .ref (ad 16)), (1, .int v1)]) C dX2_findBest_65 rfl (by decide) e_x13 (by decide) rfl ?_
          refine z_goto (tgt := 29) C dX2_findBest_68 (by decide) ?_
          exact z_sub [4, 5, 2, 1, 0] rfl (ih _ _ _ _ _ hm)
set_option maxRecDepth 100000 in
set_option maxHeartbeats 4000000 in
theorem w_X2_findBest_j2 {h : zH} {ad : Nat → Nat} {G : zG} (C : zC h ad zLX 6 G cX2_findBest RX2 wsX2_findBest 3 69) {n : Nat} {r : Int32} {s9 : zS} (hQ : zQ h ad zLX G false (.inl r) s9 (some .int)) : ∀ (f : Nat) (v1 : Int32) (v2 : Int32) (s : zS), m_X2_findBest_j2 n f v1 v2 s = some (r, s9) → zV h ad zLX 6 G s 2 [(0, .ref (ad 16)), (1, .int v1), (2, .int v2)] [] := by
  intro f
  induction f with
  | zero => intro v1 v2 s hm; simp [m_X2_findBest_j2] at hm
  | succ f ih =>
    intro v1 v2 s hm
    rw [m_X2_findBest_j2] at hm
    refine z_iload_n C dX2_findBest_2 rfl 2 rfl ?_
    refine z_iconst (v := (5 : Int32)) C dX2_findBest_3 (by decide) ?_
    refine z_icmp_ge (tgt := 22) C dX2_findBest_4 (by decide) (fun c14 => ?_) (fun c14 => ?_)
    · have hm := zIt hm c14
      refine z_iconst (v := (-1 : Int32)) C dX2_findBest_22 (by decide) ?_
      refine z_istore_n (y := (-1 : Int32)) (lv' := [(2, .int (-1 : Int32)), (0, .ref (ad 16)), (1, .int v1)]) C dX2_findBest_23 rfl (by decide) rfl rfl ?_
      refine z_iconst (v := (1 : Int32)) C dX2_findBest_24 (by decide) ?_
      refine z_istore_n (y := (1 : Int32)) (lv' := [(3, .int (1 : Int32)), (2, .int (-1 : Int32)), (0, .ref (ad 16)), (1, .int v1)]) C dX2_findBest_25 rfl (by decide) rfl rfl ?_
      refine z_iconst (v := (0 : Int32)) C dX2_findBest_26 (by decide) ?_
      refine z_istore (y := (0 : Int32)) (lv' := [(4, .int (0 : Int32)), (3, .int (1 : Int32)), (2, .int (-1 : Int32)), (0, .ref (ad 16)), (1, .int v1)]) C dX2_findBest_27 (by decide) rfl rfl ?_
      exact z_sub [3, 4, 2, 1, 0] rfl (w_X2_findBest_j29 C hQ  _ _ _ _ _ _ hm)
    · have hm := zIf hm c14
      refine z_aload_n C dX2_findBest_7 rfl 0 rfl ?_
      refine z_getr C kX16 vc2 eX2_findBest_uX2 2 (by decide) rfl eX2_findBest_f18 rfl dX2_findBest_8 ?_
      refine z_iload_n C dX2_findBest_11 rfl 2 rfl ?_
      refine z_iload_n C dX2_findBest_12 rfl 2 rfl ?_
      obtain ⟨x15, s16, q_s16, hm⟩ := zBd_of hm
      refine z_cSN (vd := true) (host := "TaxEngine") C 3 [.ref (ad 19), .int v2, .int v2] [] (c_X7_put (zC_I C) (zC_st C) kX19 q_s16) gX2_findBest_X7_put_n28 eX2_findBest_n28 eX2_findBest_tX7_put eX2_findBest_iX7_put (by decide +kernel) rfl dX2_findBest_13 rfl ⟨Nat.le_of_ble_eq_true rfl, Nat.le_of_ble_eq_true rfl⟩ rfl (Nat.le_of_ble_eq_true rfl) ?_
      obtain ⟨x17, e_x17, hm⟩ := zLt_of hm
      refine z_iinc (j := 2) (v := x17) (d := (1 : Int32)) (lv' := [(2, .int x17), (0, .ref (ad 16)), (1, .int v1)]) C dX2_findBest_16 rfl (by decide) e_x17 (by decide) rfl ?_
      refine z_goto (tgt := 2) C dX2_findBest_19 (by decide) ?_
      exact z_sub [1, 2, 0] rfl (ih _ _ _ hm)
set_option maxRecDepth 100000 in
set_option maxHeartbeats 4000000 in
theorem w_X2_findBest_e {h : zH} {ad : Nat → Nat} {G : zG} (C : zC h ad zLX 6 G cX2_findBest RX2 wsX2_findBest 3 69) {n : Nat} {r : Int32} {s9 : zS} (hQ : zQ h ad zLX G false (.inl r) s9 (some .int)) {v1 : Int32} (s : zS) (hm : m_X2_findBest n v1 s = some (r, s9)) : zV h ad zLX 6 G s 0 [(0, .ref (ad 16)), (1, .int v1)] [] := by
  rw [m_X2_findBest] at hm
  refine z_iconst (v := (0 : Int32)) C dX2_findBest_0 (by decide) ?_
  refine z_istore_n (y := (0 : Int32)) (lv' := [(2, .int (0 : Int32)), (0, .ref (ad 16)), (1, .int v1)]) C dX2_findBest_1 rfl (by decide) rfl rfl ?_
  exact z_sub [1, 2, 0] rfl (w_X2_findBest_j2 C hQ  _ _ _ _ hm)
set_option maxRecDepth 100000 in
set_option maxHeartbeats 4000000 in
theorem c_X2_findBest {h : zH} {ad : Nat → Nat} (hI : zI ad zLX.length) (hst : h.1.stackTraces = false) {n : Nat} {v1 : Int32} {s s9 : zS} {r : Int32} (hm : m_X2_findBest n v1 s = some (r, s9)) : zMR h ad zLX false yX2_findBest wsX2_findBest 3 69 [.ref (ad 16), .int v1] s (.inl r) s9 :=
  z_start (cc := cX2_findBest) (nL := 6) (ret := (some .int)) (own := RX2) (by decide +kernel) rfl rfl hI hst (Nat.le_of_ble_eq_true rfl) (fun G C hQ => w_X2_findBest_e C hQ _ hm)
