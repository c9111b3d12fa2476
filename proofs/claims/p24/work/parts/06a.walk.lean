set_option maxRecDepth 100000 in
theorem eX0_now_uX0 : ∀ w ∈ wsX00, w ∈ wsX0_now := by decide +kernel
set_option maxRecDepth 100000 in
theorem eX0_now_f18 : Cond.fieldLink RX0 18 RX0 (TX0 3).2.1 (TX0 3).2.2.1 ∈ wsX0_now := by decide +kernel
set_option maxRecDepth 100000 in
set_option maxHeartbeats 4000000 in
theorem w_X0_now_e {h : zH} {ad : Nat → Nat} {G : zG} (C : zC h ad zLX 1 G cX0_now RX0 wsX0_now 0 0) {n : Nat} {r : Int32} {s9 : zS} (hQ : zQ h ad zLX G false (.inl r) s9 (some .int))  (s : zS) (hm : m_X0_now n s = some (r, s9)) : zV h ad zLX 1 G s 0 [(0, .ref (ad 13))] [] := by
  rw [m_X0_now] at hm
  refine z_aload_n C dX0_now_0 rfl 0 rfl ?_
  refine z_get C kX13 vc0 eX0_now_uX0 3 (by decide) rfl eX0_now_f18 rfl dX0_now_1 ?_
  exact z_iret0 C hQ (zRt_of hm).1 (zRt_of hm).2 dX0_now_4
set_option maxRecDepth 100000 in
set_option maxHeartbeats 4000000 in
theorem c_X0_now {h : zH} {ad : Nat → Nat} (hI : zI ad zLX.length) (hst : h.1.stackTraces = false) {n : Nat} {s s9 : zS} {r : Int32} (hm : m_X0_now n s = some (r, s9)) : zMR h ad zLX false yX0_now wsX0_now 0 0 [.ref (ad 13)] s (.inl r) s9 :=
  z_start (cc := cX0_now) (nL := 1) (ret := (some .int)) (own := RX0) (by decide +kernel) rfl rfl hI hst (Nat.le_of_ble_eq_true rfl) (fun G C hQ => w_X0_now_e C hQ _ hm)
set_option maxRecDepth 100000 in
theorem eX0_size_uX0 : ∀ w ∈ wsX00, w ∈ wsX0_size := by decide +kernel
set_option maxRecDepth 100000 in
theorem eX0_size_f22 : Cond.fieldLink RX0 22 RX0 (TX0 2).2.1 (TX0 2).2.2.1 ∈ wsX0_size := by decide +kernel
set_option maxRecDepth 100000 in
set_option maxHeartbeats 4000000 in
theorem w_X0_size_e {h : zH} {ad : Nat → Nat} {G : zG} (C : zC h ad zLX 1 G cX0_size RX0 wsX0_size 0 0) {n : Nat} {r : Int32} {s9 : zS} (hQ : zQ h ad zLX G false (.inl r) s9 (some .int))  (s : zS) (hm : m_X0_size n s = some (r, s9)) : zV h ad zLX 1 G s 0 [(0, .ref (ad 13))] [] := by
  rw [m_X0_size] at hm
  refine z_aload_n C dX0_size_0 rfl 0 rfl ?_
  refine z_get C kX13 vc0 eX0_size_uX0 2 (by decide) rfl eX0_size_f22 rfl dX0_size_1 ?_
  exact z_iret0 C hQ (zRt_of hm).1 (zRt_of hm).2 dX0_size_4
set_option maxRecDepth 100000 in
set_option maxHeartbeats 4000000 in
theorem c_X0_size {h : zH} {ad : Nat → Nat} (hI : zI ad zLX.length) (hst : h.1.stackTraces = false) {n : Nat} {s s9 : zS} {r : Int32} (hm : m_X0_size n s = some (r, s9)) : zMR h ad zLX false yX0_size wsX0_size 0 0 [.ref (ad 13)] s (.inl r) s9 :=
  z_start (cc := cX0_size) (nL := 1) (ret := (some .int)) (own := RX0) (by decide +kernel) rfl rfl hI hst (Nat.le_of_ble_eq_true rfl) (fun G C hQ => w_X0_size_e C hQ _ hm)
set_option maxRecDepth 100000 in
set_option maxHeartbeats 4000000 in
theorem w_X7_at_e {k N : Nat} {h : zH} {ad : Nat → Nat} {G : zG} (C : zC h ad zLX 2 G cX7_at RX7 wsX7_at 0 0) {n : Nat} {r : Int32} {s9 : zS} (hQ : zQ h ad zLX G false (.inl r) s9 (some .int)) (hk : zLX[k]? = some (.inl (0, N))) {v1 : Int32} (s : zS) (hm : m_X7_at n k N v1 s = some (r, s9)) : zV h ad zLX 2 G s 0 [(0, .ref (ad k)), (1, .int v1)] [] := by
  rw [m_X7_at] at hm
  refine z_iload_n C dX7_at_0 rfl 1 rfl ?_
  refine z_if_lt (tgt := 16) C dX7_at_1 (by decide) (fun c1 => ?_) (fun c1 => ?_)
  · have hm := zIt hm c1
    refine z_iconst (v := (0 : Int32)) C dX7_at_16 (by decide) ?_
    exact z_iret0 C hQ (zRt_of hm).1 (zRt_of hm).2 dX7_at_17
  · have hm := zIf hm c1
    refine z_iload_n C dX7_at_4 rfl 1 rfl ?_
    refine z_aload_n C dX7_at_5 rfl 0 rfl ?_
    refine z_alen (v := (Int32.ofNat N)) C hk rfl dX7_at_6 ?_
    refine z_icmp_ge (tgt := 16) C dX7_at_7 (by decide) (fun c2 => ?_) (fun c2 => ?_)
    · have hm := zIt hm c2
      refine z_iconst (v := (0 : Int32)) C dX7_at_16 (by decide) ?_
      exact z_iret0 C hQ (zRt_of hm).1 (zRt_of hm).2 dX7_at_17
    · have hm := zIf hm c2
      refine z_aload_n C dX7_at_10 rfl 0 rfl ?_
      refine z_iload_n C dX7_at_11 rfl 1 rfl ?_
      obtain ⟨x3, i_x3, e_x3, hm⟩ := zRd_of hm
      refine z_iald C hk i_x3 e_x3 dX7_at_12 ?_
      refine z_goto (tgt := 17) C dX7_at_13 (by decide) ?_
      exact z_iret0 C hQ (zRt_of hm).1 (zRt_of hm).2 dX7_at_17
set_option maxRecDepth 100000 in
set_option maxHeartbeats 4000000 in
theorem c_X7_at {h : zH} {ad : Nat → Nat} {k N : Nat} (hI : zI ad zLX.length) (hst : h.1.stackTraces = false) (hk : zLX[k]? = some (.inl (0, N))) {n : Nat} {v1 : Int32} {s s9 : zS} {r : Int32} (hm : m_X7_at n k N v1 s = some (r, s9)) : zMR h ad zLX false yX7_at wsX7_at 0 0 [.ref (ad k), .int v1] s (.inl r) s9 :=
  z_start (cc := cX7_at) (nL := 2) (ret := (some .int)) (own := RX7) (by decide +kernel) rfl rfl hI hst (Nat.le_of_ble_eq_true rfl) (fun G C hQ => w_X7_at_e C hQ hk _ hm)
set_option maxRecDepth 100000 in
theorem eX0_leftAt_uX0 : ∀ w ∈ wsX00, w ∈ wsX0_leftAt := by decide +kernel
set_option maxRecDepth 100000 in
theorem eX0_leftAt_f9 : Cond.fieldLink RX0 9 RX0 (TX0 0).2.1 (TX0 0).2.2.1 ∈ wsX0_leftAt := by decide +kernel
set_option maxRecDepth 100000 in
theorem eX0_leftAt_tX7_at : Cond.static yX7_at ∈ wsX0_leftAt := by decide +kernel
set_option maxRecDepth 100000 in
theorem eX0_leftAt_iX7_at : Cond.initialized yX7_at.cls ∈ wsX0_leftAt := by decide +kernel
set_option maxRecDepth 100000 in
theorem eX0_leftAt_n25 : (RX0, 25, yX7_at, "TaxEngine") ∈ zN := by decide +kernel
set_option maxRecDepth 100000 in
set_option maxHeartbeats 4000000 in
theorem w_X0_leftAt_e {h : zH} {ad : Nat → Nat} {G : zG} (C : zC h ad zLX 2 G cX0_leftAt RX0 wsX0_leftAt 1 21) {n : Nat} {r : Int32} {s9 : zS} (hQ : zQ h ad zLX G false (.inl r) s9 (some .int)) {v1 : Int32} (s : zS) (hm : m_X0_leftAt n v1 s = some (r, s9)) : zV h ad zLX 2 G s 0 [(0, .ref (ad 13)), (1, .int v1)] [] := by
  rw [m_X0_leftAt] at hm
  refine z_aload_n C dX0_leftAt_0 rfl 0 rfl ?_
  refine z_getr C kX13 vc0 eX0_leftAt_uX0 0 (by decide) rfl eX0_leftAt_f9 rfl dX0_leftAt_1 ?_
  refine z_iload_n C dX0_leftAt_4 rfl 1 rfl ?_
  obtain ⟨x1, s2, q_s2, hm⟩ := zBd_of hm
  refine z_cSN (vd := false) (host := "TaxEngine") C 2 [.ref (ad 14), .int v1] [] (c_X7_at (zC_I C) (zC_st C) kX14 q_s2) gX0_leftAt_X7_at_n25 eX0_leftAt_n25 eX0_leftAt_tX7_at eX0_leftAt_iX7_at (by decide +kernel) rfl dX0_leftAt_5 rfl ⟨Nat.le_of_ble_eq_true rfl, Nat.le_of_ble_eq_true rfl⟩ rfl (Nat.le_of_ble_eq_true rfl) ?_
  exact z_iret0 C hQ (zRt_of hm).1 (zRt_of hm).2 dX0_leftAt_8
set_option maxRecDepth 100000 in
set_option maxHeartbeats 4000000 in
theorem c_X0_leftAt {h : zH} {ad : Nat → Nat} (hI : zI ad zLX.length) (hst : h.1.stackTraces = false) {n : Nat} {v1 : Int32} {s s9 : zS} {r : Int32} (hm : m_X0_leftAt n v1 s = some (r, s9)) : zMR h ad zLX false yX0_leftAt wsX0_leftAt 1 21 [.ref (ad 13), .int v1] s (.inl r) s9 :=
  z_start (cc := cX0_leftAt) (nL := 2) (ret := (some .int)) (own := RX0) (by decide +kernel) rfl rfl hI hst (Nat.le_of_ble_eq_true rfl) (fun G C hQ => w_X0_leftAt_e C hQ _ hm)
set_option maxRecDepth 100000 in
theorem eX0_total_uX0 : ∀ w ∈ wsX00, w ∈ wsX0_total := by decide +kernel
set_option maxRecDepth 100000 in
theorem eX0_total_f22 : Cond.fieldLink RX0 22 RX0 (TX0 2).2.1 (TX0 2).2.2.1 ∈ wsX0_total := by decide +kernel
set_option maxRecDepth 100000 in
set_option maxHeartbeats 4000000 in
theorem w_X0_total_j4 {h : zH} {ad : Nat → Nat} {G : zG} (C : zC h ad zLX 3 G cX0_total RX0 wsX0_total 2 42) {n : Nat} {r : Int32} {s9 : zS} (hQ : zQ h ad zLX G false (.inl r) s9 (some .int)) : ∀ (f : Nat) (v1 : Int32) (v2 : Int32) (s : zS), m_X0_total_j4 n f v1 v2 s = some (r, s9) → zV h ad zLX 3 G s 4 [(0, .ref (ad 13)), (1, .int v1), (2, .int v2)] [] := by
  intro f
  induction f with
  | zero => intro v1 v2 s hm; simp [m_X0_total_j4] at hm
  | succ f ih =>
    intro v1 v2 s hm
    rw [m_X0_total_j4] at hm
    refine z_iload_n C dX0_total_4 rfl 2 rfl ?_
    refine z_aload_n C dX0_total_5 rfl 0 rfl ?_
    refine z_get C kX13 vc0 eX0_total_uX0 2 (by decide) rfl eX0_total_f22 rfl dX0_total_6 ?_
    refine z_icmp_ge (tgt := 26) C dX0_total_9 (by decide) (fun c1 => ?_) (fun c1 => ?_)
    · have hm := zIt hm c1
      refine z_iload_n C dX0_total_26 rfl 1 rfl ?_
      exact z_iret0 C hQ (zRt_of hm).1 (zRt_of hm).2 dX0_total_27
    · have hm := zIf hm c1
      refine z_iload_n C dX0_total_12 rfl 1 rfl ?_
      refine z_aload_n C dX0_total_13 rfl 0 rfl ?_
      refine z_iload_n C dX0_total_14 rfl 2 rfl ?_
      obtain ⟨x2, s3, q_s3, hm⟩ := zBd_of hm
      refine z_cV (vd := false) (Cn := RX0) (k := 13) C 1 [.int v2] [.int v1] (c_X0_leftAt (zC_I C) (zC_st C)  q_s3) gX0_total_X0_leftAt (by decide +kernel) kX13 vc0 rfl rfl dX0_total_15 rfl ⟨Nat.le_of_ble_eq_true rfl, Nat.le_of_ble_eq_true rfl⟩ rfl (Nat.le_of_ble_eq_true rfl) ?_
      refine z_iadd C dX0_total_18 ?_
      obtain ⟨x4, e_x4, hm⟩ := zLt_of hm
      refine z_istore_n (y := x4) (lv' := [(1, .int x4), (0, .ref (ad 13)), (2, .int v2)]) C dX0_total_19 rfl (by decide) e_x4 rfl ?_
      obtain ⟨x5, e_x5, hm⟩ := zLt_of hm
      refine z_iinc (j := 2) (v := x5) (d := (1 : Int32)) (lv' := [(2, .int x5), (1, .int x4), (0, .ref (ad 13))]) C dX0_total_20 rfl (by decide) e_x5 (by decide) rfl ?_
      refine z_goto (tgt := 4) C dX0_total_23 (by decide) ?_
      exact z_sub [2, 1, 0] rfl (ih _ _ _ hm)
set_option maxRecDepth 100000 in
set_option maxHeartbeats 4000000 in
theorem w_X0_total_e {h : zH} {ad : Nat → Nat} {G : zG} (C : zC h ad zLX 3 G cX0_total RX0 wsX0_total 2 42) {n : Nat} {r : Int32} {s9 : zS} (hQ : zQ h ad zLX G false (.inl r) s9 (some .int))  (s : zS) (hm : m_X0_total n s = some (r, s9)) : zV h ad zLX 3 G s 0 [(0, .ref (ad 13))] [] := by
  rw [m_X0_total] at hm
  refine z_iconst (v := (0 : Int32)) C dX0_total_0 (by decide) ?_
  refine z_istore_n (y := (0 : Int32)) (lv' := [(1, .int (0 : Int32)), (0, .ref (ad 13))]) C dX0_total_1 rfl (by decide) rfl rfl ?_
  refine z_iconst (v := (0 : Int32)) C dX0_total_2 (by decide) ?_
  refine z_istore_n (y := (0 : Int32)) (lv' := [(2, .int (0 : Int32)), (1, .int (0 : Int32)), (0, .ref (ad 13))]) C dX0_total_3 rfl (by decide) rfl rfl ?_
  exact z_sub [2, 1, 0] rfl (w_X0_total_j4 C hQ  _ _ _ _ hm)
set_option maxRecDepth 100000 in
set_option maxHeartbeats 4000000 in
theorem c_X0_total {h : zH} {ad : Nat → Nat} (hI : zI ad zLX.length) (hst : h.1.stackTraces = false) {n : Nat} {s s9 : zS} {r : Int32} (hm : m_X0_total n s = some (r, s9)) : zMR h ad zLX false yX0_total wsX0_total 2 42 [.ref (ad 13)] s (.inl r) s9 :=
  z_start (cc := cX0_total) (nL := 3) (ret := (some .int)) (own := RX0) (by decide +kernel) rfl rfl hI hst (Nat.le_of_ble_eq_true rfl) (fun G C hQ => w_X0_total_e C hQ _ hm)
set_option maxRecDepth 100000 in
set_option maxHeartbeats 4000000 in
theorem w_X7_put_e {k N : Nat} {h : zH} {ad : Nat → Nat} {G : zG} (C : zC h ad zLX 3 G cX7_put RX7 wsX7_put 0 0) {n : Nat} {r : Int32} {s9 : zS} (hQ : zQ h ad zLX G true (.inl r) s9 none) (hk : zLX[k]? = some (.inl (0, N))) {v1 : Int32} {v2 : Int32} (s : zS) (hm : m_X7_put n k N v1 v2 s = some (r, s9)) : zV h ad zLX 3 G s 0 [(0, .ref (ad k)), (1, .int v1), (2, .int v2)] [] := by
  rw [m_X7_put] at hm
  refine z_iload_n C dX7_put_0 rfl 1 rfl ?_
  refine z_if_lt (tgt := 14) C dX7_put_1 (by decide) (fun c1 => ?_) (fun c1 => ?_)
  · have hm := zIt hm c1
    exact z_vret0 C hQ (zRt_of hm).1 (zRt_of hm).2 dX7_put_14
  · have hm := zIf hm c1
    refine z_iload_n C dX7_put_4 rfl 1 rfl ?_
    refine z_aload_n C dX7_put_5 rfl 0 rfl ?_
    refine z_alen (v := (Int32.ofNat N)) C hk rfl dX7_put_6 ?_
    refine z_icmp_ge (tgt := 14) C dX7_put_7 (by decide) (fun c2 => ?_) (fun c2 => ?_)
    · have hm := zIt hm c2
      exact z_vret0 C hQ (zRt_of hm).1 (zRt_of hm).2 dX7_put_14
    · have hm := zIf hm c2
      refine z_aload_n C dX7_put_10 rfl 0 rfl ?_
      refine z_iload_n C dX7_put_11 rfl 1 rfl ?_
      refine z_iload_n C dX7_put_12 rfl 2 rfl ?_
      obtain ⟨s3, i_s3, e_s3, hm⟩ := zWr_of hm
      refine z_iast C hk i_s3 e_s3 dX7_put_13 ?_
      exact z_vret0 C hQ (zRt_of hm).1 (zRt_of hm).2 dX7_put_14
set_option maxRecDepth 100000 in
set_option maxHeartbeats 4000000 in
theorem c_X7_put {h : zH} {ad : Nat → Nat} {k N : Nat} (hI : zI ad zLX.length) (hst : h.1.stackTraces = false) (hk : zLX[k]? = some (.inl (0, N))) {n : Nat} {v1 : Int32} {v2 : Int32} {s s9 : zS} {r : Int32} (hm : m_X7_put n k N v1 v2 s = some (r, s9)) : zMR h ad zLX true yX7_put wsX7_put 0 0 [.ref (ad k), .int v1, .int v2] s (.inl r) s9 :=
  z_start (cc := cX7_put) (nL := 3) (ret := none) (own := RX7) (by decide +kernel) rfl rfl hI hst (Nat.le_of_ble_eq_true rfl) (fun G C hQ => w_X7_put_e C hQ hk _ hm)
set_option maxRecDepth 100000 in
theorem eX0_move_uX0 : ∀ w ∈ wsX00, w ∈ wsX0_move := by decide +kernel
set_option maxRecDepth 100000 in
theorem eX0_move_f9 : Cond.fieldLink RX0 9 RX0 (TX0 0).2.1 (TX0 0).2.2.1 ∈ wsX0_move := by decide +kernel
set_option maxRecDepth 100000 in
theorem eX0_move_tX7_at : Cond.static yX7_at ∈ wsX0_move := by decide +kernel
set_option maxRecDepth 100000 in
theorem eX0_move_iX7_at : Cond.initialized yX7_at.cls ∈ wsX0_move := by decide +kernel
set_option maxRecDepth 100000 in
theorem eX0_move_n25 : (RX0, 25, yX7_at, "TaxEngine") ∈ zN := by decide +kernel
set_option maxRecDepth 100000 in
theorem eX0_move_tX7_put : Cond.static yX7_put ∈ wsX0_move := by decide +kernel
set_option maxRecDepth 100000 in
theorem eX0_move_iX7_put : Cond.initialized yX7_put.cls ∈ wsX0_move := by decide +kernel
set_option maxRecDepth 100000 in
theorem eX0_move_n37 : (RX0, 37, yX7_put, "TaxEngine") ∈ zN := by decide +kernel
set_option maxRecDepth 100000 in
theorem eX0_move_f15 : Cond.fieldLink RX0 15 RX0 (TX0 1).2.1 (TX0 1).2.2.1 ∈ wsX0_move := by decide +kernel
set_option maxRecDepth 100000 in
set_option maxHeartbeats 4000000 in
theorem w_X0_move_e {h : zH} {ad : Nat → Nat} {G : zG} (C : zC h ad zLX 3 G cX0_move RX0 wsX0_move 1 22) {n : Nat} {r : Int32} {s9 : zS} (hQ : zQ h ad zLX G true (.inl r) s9 none) {v1 : Int32} {v2 : Int32} (s : zS) (hm : m_X0_move n v1 v2 s = some (r, s9)) : zV h ad zLX 3 G s 0 [(0, .ref (ad 13)), (1, .int v1), (2, .int v2)] [] := by
  rw [m_X0_move] at hm
  refine z_aload_n C dX0_move_0 rfl 0 rfl ?_
  refine z_getr C kX13 vc0 eX0_move_uX0 0 (by decide) rfl eX0_move_f9 rfl dX0_move_1 ?_
  refine z_iload_n C dX0_move_4 rfl 2 rfl ?_
  refine z_aload_n C dX0_move_5 rfl 0 rfl ?_
  refine z_getr C kX13 vc0 eX0_move_uX0 0 (by decide) rfl eX0_move_f9 rfl dX0_move_6 ?_
  refine z_iload_n C dX0_move_9 rfl 1 rfl ?_
  obtain ⟨x1, s2, q_s2, hm⟩ := zBd_of hm
  refine z_cSN (vd := false) (host := "TaxEngine") C 2 [.ref (ad 14), .int v1] [.int v2, .ref (ad 14)] (c_X7_at (zC_I C) (zC_st C) kX14 q_s2) gX0_move_X7_at_n25 eX0_move_n25 eX0_move_tX7_at eX0_move_iX7_at (by decide +kernel) rfl dX0_move_10 rfl ⟨Nat.le_of_ble_eq_true rfl, Nat.le_of_ble_eq_true rfl⟩ rfl (Nat.le_of_ble_eq_true rfl) ?_
  obtain ⟨x3, s4, q_s4, hm⟩ := zBd_of hm
  refine z_cSN (vd := true) (host := "TaxEngine") C 3 [.ref (ad 14), .int v2, .int x1] [] (c_X7_put (zC_I C) (zC_st C) kX14 q_s4) gX0_move_X7_put_n37 eX0_move_n37 eX0_move_tX7_put eX0_move_iX7_put (by decide +kernel) rfl dX0_move_13 rfl ⟨Nat.le_of_ble_eq_true rfl, Nat.le_of_ble_eq_true rfl⟩ rfl (Nat.le_of_ble_eq_true rfl) ?_
  refine z_aload_n C dX0_move_16 rfl 0 rfl ?_
  refine z_getr C kX13 vc0 eX0_move_uX0 1 (by decide) rfl eX0_move_f15 rfl dX0_move_17 ?_
  refine z_iload_n C dX0_move_20 rfl 2 rfl ?_
  refine z_aload_n C dX0_move_21 rfl 0 rfl ?_
  refine z_getr C kX13 vc0 eX0_move_uX0 1 (by decide) rfl eX0_move_f15 rfl dX0_move_22 ?_
  refine z_iload_n C dX0_move_25 rfl 1 rfl ?_
  obtain ⟨x5, s6, q_s6, hm⟩ := zBd_of hm
  refine z_cSN (vd := false) (host := "TaxEngine") C 2 [.ref (ad 15), .int v1] [.int v2, .ref (ad 15)] (c_X7_at (zC_I C) (zC_st C) kX15 q_s6) gX0_move_X7_at_n25 eX0_move_n25 eX0_move_tX7_at eX0_move_iX7_at (by decide +kernel) rfl dX0_move_26 rfl ⟨Nat.le_of_ble_eq_true rfl, Nat.le_of_ble_eq_true rfl⟩ rfl (Nat.le_of_ble_eq_true rfl) ?_
  obtain ⟨x7, s8, q_s8, hm⟩ := zBd_of hm
  refine z_cSN (vd := true) (host := "TaxEngine") C 3 [.ref (ad 15), .int v2, .int x5] [] (c_X7_put (zC_I C) (zC_st C) kX15 q_s8) gX0_move_X7_put_n37 eX0_move_n37 eX0_move_tX7_put eX0_move_iX7_put (by decide +kernel) rfl dX0_move_29 rfl ⟨Nat.le_of_ble_eq_true rfl, Nat.le_of_ble_eq_true rfl⟩ rfl (Nat.le_of_ble_eq_true rfl) ?_
  exact z_vret0 C hQ (zRt_of hm).1 (zRt_of hm).2 dX0_move_32
set_option maxRecDepth 100000 in
set_option maxHeartbeats 4000000 in
theorem c_X0_move {h : zH} {ad : Nat → Nat} (hI : zI ad zLX.length) (hst : h.1.stackTraces = false) {n : Nat} {v1 : Int32} {v2 : Int32} {s s9 : zS} {r : Int32} (hm : m_X0_move n v1 v2 s = some (r, s9)) : zMR h ad zLX true yX0_move wsX0_move 1 22 [.ref (ad 13), .int v1, .int v2] s (.inl r) s9 :=
  z_start (cc := cX0_move) (nL := 3) (ret := none) (own := RX0) (by decide +kernel) rfl rfl hI hst (Nat.le_of_ble_eq_true rfl) (fun G C hQ => w_X0_move_e C hQ _ hm)
set_option maxRecDepth 100000 in
theorem eX0_add_uX0 : ∀ w ∈ wsX00, w ∈ wsX0_add := by decide +kernel
set_option maxRecDepth 100000 in
theorem eX0_add_f9 : Cond.fieldLink RX0 9 RX0 (TX0 0).2.1 (TX0 0).2.2.1 ∈ wsX0_add := by decide +kernel
set_option maxRecDepth 100000 in
theorem eX0_add_tX7_put : Cond.static yX7_put ∈ wsX0_add := by decide +kernel
set_option maxRecDepth 100000 in
theorem eX0_add_iX7_put : Cond.initialized yX7_put.cls ∈ wsX0_add := by decide +kernel
set_option maxRecDepth 100000 in
theorem eX0_add_n37 : (RX0, 37, yX7_put, "TaxEngine") ∈ zN := by decide +kernel
set_option maxRecDepth 100000 in
theorem eX0_add_f15 : Cond.fieldLink RX0 15 RX0 (TX0 1).2.1 (TX0 1).2.2.1 ∈ wsX0_add := by decide +kernel
set_option maxRecDepth 100000 in
theorem eX0_add_f22 : Cond.fieldLink RX0 22 RX0 (TX0 2).2.1 (TX0 2).2.2.1 ∈ wsX0_add := by decide +kernel
set_option maxRecDepth 100000 in
theorem eX0_add_tX7_at : Cond.static yX7_at ∈ wsX0_add := by decide +kernel
set_option maxRecDepth 100000 in
theorem eX0_add_iX7_at : Cond.initialized yX7_at.cls ∈ wsX0_add := by decide +kernel
set_option maxRecDepth 100000 in
theorem eX0_add_n25 : (RX0, 25, yX7_at, "TaxEngine") ∈ zN := by decide +kernel
set_option maxRecDepth 100000 in
set_option maxHeartbeats 4000000 in
theorem w_X0_add_j37 {h : zH} {ad : Nat → Nat} {G : zG} (C : zC h ad zLX 4 G cX0_add RX0 wsX0_add 2 44) {n : Nat} {r : Int32} {s9 : zS} (hQ : zQ h ad zLX G true (.inl r) s9 none) (v1 : Int32) (v2 : Int32) (v3 : Int32) (s : zS) (hm : m_X0_add_j37 n v1 v2 v3 s = some (r, s9)) : zV h ad zLX 4 G s 37 [(0, .ref (ad 13)), (1, .int v1), (2, .int v2), (3, .int v3)] [] := by
  rw [m_X0_add_j37] at hm
  refine z_aload_n C dX0_add_37 rfl 0 rfl ?_
  refine z_getr C kX13 vc0 eX0_add_uX0 0 (by decide) rfl eX0_add_f9 rfl dX0_add_38 ?_
  refine z_iload_n C dX0_add_41 rfl 3 rfl ?_
  refine z_iload_n C dX0_add_42 rfl 1 rfl ?_
  obtain ⟨x1, s2, q_s2, hm⟩ := zBd_of hm
  refine z_cSN (vd := true) (host := "TaxEngine") C 3 [.ref (ad 14), .int v3, .int v1] [] (c_X7_put (zC_I C) (zC_st C) kX14 q_s2) gX0_add_X7_put_n37 eX0_add_n37 eX0_add_tX7_put eX0_add_iX7_put (by decide +kernel) rfl dX0_add_43 rfl ⟨Nat.le_of_ble_eq_true rfl, Nat.le_of_ble_eq_true rfl⟩ rfl (Nat.le_of_ble_eq_true rfl) ?_
  refine z_aload_n C dX0_add_46 rfl 0 rfl ?_
  refine z_getr C kX13 vc0 eX0_add_uX0 1 (by decide) rfl eX0_add_f15 rfl dX0_add_47 ?_
  refine z_iload_n C dX0_add_50 rfl 3 rfl ?_
  refine z_iload_n C dX0_add_51 rfl 2 rfl ?_
  obtain ⟨x3, s4, q_s4, hm⟩ := zBd_of hm
  refine z_cSN (vd := true) (host := "TaxEngine") C 3 [.ref (ad 15), .int v3, .int v2] [] (c_X7_put (zC_I C) (zC_st C) kX15 q_s4) gX0_add_X7_put_n37 eX0_add_n37 eX0_add_tX7_put eX0_add_iX7_put (by decide +kernel) rfl dX0_add_52 rfl ⟨Nat.le_of_ble_eq_true rfl, Nat.le_of_ble_eq_true rfl⟩ rfl (Nat.le_of_ble_eq_true rfl) ?_
  refine z_aload_n C dX0_add_55 rfl 0 rfl ?_
  refine z_dup C dX0_add_56 rfl ?_
  refine z_get C kX13 vc0 eX0_add_uX0 2 (by decide) rfl eX0_add_f22 rfl dX0_add_57 ?_
  refine z_iconst (v := (1 : Int32)) C dX0_add_60 (by decide) ?_
  refine z_iadd C dX0_add_61 ?_
  obtain ⟨s5, e_s5, hm⟩ := zLt_of hm
  refine z_put C kX13 vc0 eX0_add_uX0 tyX0_ok nmX0 2 (by decide) rfl eX0_add_f22 rfl rfl rfl e_s5 dX0_add_62 ?_
  exact z_vret0 C hQ (zRt_of hm).1 (zRt_of hm).2 dX0_add_65
set_option maxRecDepth 100000 in
set_option maxHeartbeats 4000000 in
theorem w_X0_add_j5 {h : zH} {ad : Nat → Nat} {G : zG} (C : zC h ad zLX 4 G cX0_add RX0 wsX0_add 2 44) {n : Nat} {r : Int32} {s9 : zS} (hQ : zQ h ad zLX G true (.inl r) s9 none) : ∀ (f : Nat) (v1 : Int32) (v2 : Int32) (v3 : Int32) (s : zS), m_X0_add_j5 n f v1 v2 v3 s = some (r, s9) → zV h ad zLX 4 G s 5 [(0, .ref (ad 13)), (1, .int v1), (2, .int v2), (3, .int v3)] [] := by
  intro f
  induction f with
  | zero => intro v1 v2 v3 s hm; simp [m_X0_add_j5] at hm
  | succ f ih =>
    intro v1 v2 v3 s hm
    rw [m_X0_add_j5] at hm
    refine z_iload_n C dX0_add_5 rfl 3 rfl ?_
    refine z_if_le (tgt := 37) C dX0_add_6 (by decide) (fun c6 => ?_) (fun c6 => ?_)
    · have hm := zIt hm c6
      exact z_sub [0, 1, 2, 3] rfl (w_X0_add_j37 C hQ  _ _ _ _ hm)
    · have hm := zIf hm c6
      refine z_aload_n C dX0_add_9 rfl 0 rfl ?_
      refine z_getr C kX13 vc0 eX0_add_uX0 1 (by decide) rfl eX0_add_f15 rfl dX0_add_10 ?_
      refine z_iload_n C dX0_add_13 rfl 3 rfl ?_
      refine z_iconst (v := (1 : Int32)) C dX0_add_14 (by decide) ?_
      refine z_isub C dX0_add_15 ?_
      obtain ⟨x7, s8, q_s8, hm⟩ := zBd_of hm
      refine z_cSN (vd := false) (host := "TaxEngine") C 2 [.ref (ad 15), .int (v3 - (1 : Int32))] [] (c_X7_at (zC_I C) (zC_st C) kX15 q_s8) gX0_add_X7_at_n25 eX0_add_n25 eX0_add_tX7_at eX0_add_iX7_at (by decide +kernel) rfl dX0_add_16 rfl ⟨Nat.le_of_ble_eq_true rfl, Nat.le_of_ble_eq_true rfl⟩ rfl (Nat.le_of_ble_eq_true rfl) ?_
      refine z_iload_n C dX0_add_19 rfl 2 rfl ?_
      refine z_icmp_le (tgt := 37) C dX0_add_20 (by decide) (fun c9 => ?_) (fun c9 => ?_)
      · have hm := zIt hm c9
        exact z_sub [0, 1, 2, 3] rfl (w_X0_add_j37 C hQ  _ _ _ _ hm)
      · have hm := zIf hm c9
        refine z_aload_n C dX0_add_23 rfl 0 rfl ?_
        refine z_iload_n C dX0_add_24 rfl 3 rfl ?_
        refine z_iconst (v := (1 : Int32)) C dX0_add_25 (by decide) ?_
        refine z_isub C dX0_add_26 ?_
        refine z_iload_n C dX0_add_27 rfl 3 rfl ?_
        obtain ⟨x10, s11, q_s11, hm⟩ := zBd_of hm
        refine z_cV (vd := true) (Cn := RX0) (k := 13) C 2 [.int (v3 - (1 : Int32)), .int v3] [] (c_X0_move (zC_I C) (zC_st C)  q_s11) gX0_add_X0_move (by decide +kernel) kX13 vc0 rfl rfl dX0_add_28 rfl ⟨Nat.le_of_ble_eq_true rfl, Nat.le_of_ble_eq_true rfl⟩ rfl (Nat.le_of_ble_eq_true rfl) ?_
        obtain ⟨x12, e_x12, hm⟩ := zLt_of hm
        refine z_iinc (j := 3) (v := x12) (d := (-1 : Int32)) (lv' := [(3, .int x12), (0, .ref (ad 13)), (1, .int v1), (2, .int v2)]) C dX0_add_31 rfl (by decide) e_x12 (by decide) rfl ?_
        refine z_goto (tgt := 5) C dX0_add_34 (by decide) ?_
        exact z_sub [1, 2, 3, 0] rfl (ih _ _ _ _ hm)
set_option maxRecDepth 100000 in
set_option maxHeartbeats 4000000 in
theorem w_X0_add_e {h : zH} {ad : Nat → Nat} {G : zG} (C : zC h ad zLX 4 G cX0_add RX0 wsX0_add 2 44) {n : Nat} {r : Int32} {s9 : zS} (hQ : zQ h ad zLX G true (.inl r) s9 none) {v1 : Int32} {v2 : Int32} (s : zS) (hm : m_X0_add n v1 v2 s = some (r, s9)) : zV h ad zLX 4 G s 0 [(0, .ref (ad 13)), (1, .int v1), (2, .int v2)] [] := by
  rw [m_X0_add] at hm
  refine z_aload_n C dX0_add_0 rfl 0 rfl ?_
  refine z_get C kX13 vc0 eX0_add_uX0 2 (by decide) rfl eX0_add_f22 rfl dX0_add_1 ?_
  obtain ⟨x13, e_x13, hm⟩ := zLt_of hm
  refine z_istore_n (y := x13) (lv' := [(3, .int x13), (0, .ref (ad 13)), (1, .int v1), (2, .int v2)]) C dX0_add_4 rfl (by decide) e_x13 rfl ?_
  exact z_sub [1, 2, 3, 0] rfl (w_X0_add_j5 C hQ  _ _ _ _ _ hm)
set_option maxRecDepth 100000 in
set_option maxHeartbeats 4000000 in
theorem c_X0_add {h : zH} {ad : Nat → Nat} (hI : zI ad zLX.length) (hst : h.1.stackTraces = false) {n : Nat} {v1 : Int32} {v2 : Int32} {s s9 : zS} {r : Int32} (hm : m_X0_add n v1 v2 s = some (r, s9)) : zMR h ad zLX true yX0_add wsX0_add 2 44 [.ref (ad 13), .int v1, .int v2] s (.inl r) s9 :=
  z_start (cc := cX0_add) (nL := 4) (ret := none) (own := RX0) (by decide +kernel) rfl rfl hI hst (Nat.le_of_ble_eq_true rfl) (fun G C hQ => w_X0_add_e C hQ _ hm)
set_option maxRecDepth 100000 in
theorem eX0_take_uX0 : ∀ w ∈ wsX00, w ∈ wsX0_take := by decide +kernel
set_option maxRecDepth 100000 in
theorem eX0_take_f22 : Cond.fieldLink RX0 22 RX0 (TX0 2).2.1 (TX0 2).2.2.1 ∈ wsX0_take := by decide +kernel
set_option maxRecDepth 100000 in
theorem eX0_take_l41 : Cond.methodLink RX0 41 Lib.Math.min.name ∈ wsX0_take := by decide +kernel
set_option maxRecDepth 100000 in
theorem eX0_take_stmin : Cond.static Lib.Math.min.name ∈ wsX0_take := by decide +kernel
set_option maxRecDepth 100000 in
theorem eX0_take_im : Cond.initialized "java/lang/Math" ∈ wsX0_take := by decide +kernel
set_option maxRecDepth 100000 in
theorem eX0_take_cmmin : Cond.code Lib.Math.min.name Lib.Math.min.code 2 (some .int) ∈ wsX0_take := by decide +kernel
set_option maxRecDepth 100000 in
theorem eX0_take_f9 : Cond.fieldLink RX0 9 RX0 (TX0 0).2.1 (TX0 0).2.2.1 ∈ wsX0_take := by decide +kernel
set_option maxRecDepth 100000 in
theorem eX0_take_tX7_put : Cond.static yX7_put ∈ wsX0_take := by decide +kernel
set_option maxRecDepth 100000 in
theorem eX0_take_iX7_put : Cond.initialized yX7_put.cls ∈ wsX0_take := by decide +kernel
set_option maxRecDepth 100000 in
theorem eX0_take_n37 : (RX0, 37, yX7_put, "TaxEngine") ∈ zN := by decide +kernel
set_option maxRecDepth 100000 in
set_option maxHeartbeats 4000000 in
theorem w_X0_take_j4 {h : zH} {ad : Nat → Nat} {G : zG} (C : zC h ad zLX 5 G cX0_take RX0 wsX0_take 2 42) {n : Nat} {r : Int32} {s9 : zS} (hQ : zQ h ad zLX G false (.inl r) s9 (some .int)) : ∀ (f : Nat) (v1 : Int32) (v2 : Int32) (v3 : Int32) (s : zS), m_X0_take_j4 n f v1 v2 v3 s = some (r, s9) → zV h ad zLX 5 G s 4 [(0, .ref (ad 13)), (1, .int v1), (2, .int v2), (3, .int v3)] [] := by
  intro f
  induction f with
  | zero => intro v1 v2 v3 s hm; simp [m_X0_take_j4] at hm
  | succ f ih =>
    intro v1 v2 v3 s hm
    rw [m_X0_take_j4] at hm
    refine z_iload_n C dX0_take_4 rfl 3 rfl ?_
    refine z_aload_n C dX0_take_5 rfl 0 rfl ?_
    refine z_get C kX13 vc0 eX0_take_uX0 2 (by decide) rfl eX0_take_f22 rfl dX0_take_6 ?_
    refine z_icmp_ge (tgt := 50) C dX0_take_9 (by decide) (fun c1 => ?_) (fun c1 => ?_)
    · have hm := zIt hm c1
      refine z_iload_n C dX0_take_50 rfl 1 rfl ?_
      refine z_iload_n C dX0_take_51 rfl 2 rfl ?_
      refine z_isub C dX0_take_52 ?_
      exact z_iret0 C hQ (zRt_of hm).1 (zRt_of hm).2 dX0_take_53
    · have hm := zIf hm c1
      refine z_iload_n C dX0_take_12 rfl 2 rfl ?_
      refine z_aload_n C dX0_take_13 rfl 0 rfl ?_
      refine z_iload_n C dX0_take_14 rfl 3 rfl ?_
      obtain ⟨x2, s3, q_s3, hm⟩ := zBd_of hm
      refine z_cV (vd := false) (Cn := RX0) (k := 13) C 1 [.int v3] [.int v2] (c_X0_leftAt (zC_I C) (zC_st C)  q_s3) gX0_take_X0_leftAt (by decide +kernel) kX13 vc0 rfl rfl dX0_take_15 rfl ⟨Nat.le_of_ble_eq_true rfl, Nat.le_of_ble_eq_true rfl⟩ rfl (Nat.le_of_ble_eq_true rfl) ?_
      refine z_mmin C eX0_take_l41 eX0_take_stmin eX0_take_im eX0_take_cmmin (Nat.le_of_ble_eq_true rfl) (Nat.le_of_ble_eq_true rfl) dX0_take_18 ?_
      obtain ⟨x4, e_x4, hm⟩ := zLt_of hm
      refine z_istore (y := x4) (lv' := [(4, .int x4), (0, .ref (ad 13)), (1, .int v1), (2, .int v2), (3, .int v3)]) C dX0_take_21 (by decide) e_x4 rfl ?_
      refine z_aload_n C dX0_take_23 rfl 1 rfl ?_
      refine z_getr C kX13 vc0 eX0_take_uX0 0 (by decide) rfl eX0_take_f9 rfl dX0_take_24 ?_
      refine z_iload_n C dX0_take_27 rfl 4 rfl ?_
      refine z_aload_n C dX0_take_28 rfl 1 rfl ?_
      refine z_iload_n C dX0_take_29 rfl 4 rfl ?_
      obtain ⟨x5, s6, q_s6, hm⟩ := zBd_of hm
      refine z_cV (vd := false) (Cn := RX0) (k := 13) C 1 [.int v3] [.int v3, .ref (ad 14)] (c_X0_leftAt (zC_I C) (zC_st C)  q_s6) gX0_take_X0_leftAt (by decide +kernel) kX13 vc0 rfl rfl dX0_take_30 rfl ⟨Nat.le_of_ble_eq_true rfl, Nat.le_of_ble_eq_true rfl⟩ rfl (Nat.le_of_ble_eq_true rfl) ?_
      refine z_iload C dX0_take_33 0 rfl ?_
      refine z_isub C dX0_take_35 ?_
      obtain ⟨x7, s8, q_s8, hm⟩ := zBd_of hm
      refine z_cSN (vd := true) (host := "TaxEngine") C 3 [.ref (ad 14), .int v3, .int (x5 - x4)] [] (c_X7_put (zC_I C) (zC_st C) kX14 q_s8) gX0_take_X7_put_n37 eX0_take_n37 eX0_take_tX7_put eX0_take_iX7_put (by decide +kernel) rfl dX0_take_36 rfl ⟨Nat.le_of_ble_eq_true rfl, Nat.le_of_ble_eq_true rfl⟩ rfl (Nat.le_of_ble_eq_true rfl) ?_
      refine z_iload_n C dX0_take_39 rfl 3 rfl ?_
      refine z_iload C dX0_take_40 0 rfl ?_
      refine z_isub C dX0_take_42 ?_
      obtain ⟨x9, e_x9, hm⟩ := zLt_of hm
      refine z_istore_n (y := x9) (lv' := [(2, .int x9), (4, .int x4), (0, .ref (ad 13)), (1, .int v1), (3, .int v3)]) C dX0_take_43 rfl (by decide) e_x9 rfl ?_
      obtain ⟨x10, e_x10, hm⟩ := zLt_of hm
      refine z_iinc (j := 4) (v := x10) (d := (1 : Int32)) (lv' := [(3, .int x10), (2, .int x9), (4, .int x4), (0, .ref (ad 13)), (1, .int v1)]) C dX0_take_44 rfl (by decide) e_x10 (by decide) rfl ?_
      refine z_goto (tgt := 4) C dX0_take_47 (by decide) ?_
      exact z_sub [3, 4, 1, 0] rfl (ih _ _ _ _ hm)
set_option maxRecDepth 100000 in
set_option maxHeartbeats 4000000 in
theorem w_X0_take_e {h : zH} {ad : Nat → Nat} {G : zG} (C : zC h ad zLX 5 G cX0_take RX0 wsX0_take 2 42) {n : Nat} {r : Int32} {s9 : zS} (hQ : zQ h ad zLX G false (.inl r) s9 (some .int)) {v1 : Int32} (s : zS) (hm : m_X0_take n v1 s = some (r, s9)) : zV h ad zLX 5 G s 0 [(0, .ref (ad 13)), (1, .int v1)] [] := by
  rw [m_X0_take] at hm
  refine z_iload_n C dX0_take_0 rfl 1 rfl ?_
  refine z_istore_n (y := v1) (lv' := [(2, .int v1), (0, .ref (ad 13)), (1, .int v1)]) C dX0_take_1 rfl (by decide) rfl rfl ?_
  refine z_iconst (v := (0 : Int32)) C dX0_take_2 (by decide) ?_
  refine z_istore_n (y := (0 : Int32)) (lv' := [(3, .int (0 : Int32)), (2, .int v1), (0, .ref (ad 13)), (1, .int v1)]) C dX0_take_3 rfl (by decide) rfl rfl ?_
  exact z_sub [2, 3, 1, 0] rfl (w_X0_take_j4 C hQ  _ _ _ _ _ hm)
set_option maxRecDepth 100000 in
set_option maxHeartbeats 4000000 in
theorem c_X0_take {h : zH} {ad : Nat → Nat} (hI : zI ad zLX.length) (hst : h.1.stackTraces = false) {n : Nat} {v1 : Int32} {s s9 : zS} {r : Int32} (hm : m_X0_take n v1 s = some (r, s9)) : zMR h ad zLX false yX0_take wsX0_take 2 42 [.ref (ad 13), .int v1] s (.inl r) s9 :=
  z_start (cc := cX0_take) (nL := 5) (ret := (some .int)) (own := RX0) (by decide +kernel) rfl rfl hI hst (Nat.le_of_ble_eq_true rfl) (fun G C hQ => w_X0_take_e C hQ _ hm)
set_option maxRecDepth 100000 in
theorem eX0_endYear_uX0 : ∀ w ∈ wsX00, w ∈ wsX0_endYear := by decide +kernel
set_option maxRecDepth 100000 in
theorem eX0_endYear_f22 : Cond.fieldLink RX0 22 RX0 (TX0 2).2.1 (TX0 2).2.2.1 ∈ wsX0_endYear := by decide +kernel
set_option maxRecDepth 100000 in
theorem eX0_endYear_f18 : Cond.fieldLink RX0 18 RX0 (TX0 3).2.1 (TX0 3).2.2.1 ∈ wsX0_endYear := by decide +kernel
set_option maxRecDepth 100000 in
theorem eX0_endYear_f15 : Cond.fieldLink RX0 15 RX0 (TX0 1).2.1 (TX0 1).2.2.1 ∈ wsX0_endYear := by decide +kernel
set_option maxRecDepth 100000 in
theorem eX0_endYear_tX7_at : Cond.static yX7_at ∈ wsX0_endYear := by decide +kernel
set_option maxRecDepth 100000 in
theorem eX0_endYear_iX7_at : Cond.initialized yX7_at.cls ∈ wsX0_endYear := by decide +kernel
set_option maxRecDepth 100000 in
theorem eX0_endYear_n25 : (RX0, 25, yX7_at, "TaxEngine") ∈ zN := by decide +kernel
set_option maxRecDepth 100000 in
set_option maxHeartbeats 4000000 in
theorem w_X0_endYear_j4 {h : zH} {ad : Nat → Nat} {G : zG} (C : zC h ad zLX 3 G cX0_endYear RX0 wsX0_endYear 2 44) {n : Nat} {r : Int32} {s9 : zS} (hQ : zQ h ad zLX G true (.inl r) s9 none) : ∀ (f : Nat) (v1 : Int32) (v2 : Int32) (s : zS), m_X0_endYear_j4 n f v1 v2 s = some (r, s9) → zV h ad zLX 3 G s 4 [(0, .ref (ad 13)), (1, .int v1), (2, .int v2)] [] := by
  intro f
  induction f with
  | zero => intro v1 v2 s hm; simp [m_X0_endYear_j4] at hm
  | succ f ih =>
    intro v1 v2 s hm
    rw [m_X0_endYear_j4] at hm
    refine z_iload_n C dX0_endYear_4 rfl 2 rfl ?_
    refine z_aload_n C dX0_endYear_5 rfl 0 rfl ?_
    refine z_get C kX13 vc0 eX0_endYear_uX0 2 (by decide) rfl eX0_endYear_f22 rfl dX0_endYear_6 ?_
    refine z_icmp_ge (tgt := 50) C dX0_endYear_9 (by decide) (fun c1 => ?_) (fun c1 => ?_)
    · have hm := zIt hm c1
      refine z_aload_n C dX0_endYear_50 rfl 0 rfl ?_
      refine z_iload_n C dX0_endYear_51 rfl 1 rfl ?_
      obtain ⟨s2, e_s2, hm⟩ := zLt_of hm
      refine z_put C kX13 vc0 eX0_endYear_uX0 tyX0_ok nmX0 2 (by decide) rfl eX0_endYear_f22 rfl rfl rfl e_s2 dX0_endYear_52 ?_
      refine z_aload_n C dX0_endYear_55 rfl 0 rfl ?_
      refine z_dup C dX0_endYear_56 rfl ?_
      refine z_get C kX13 vc0 eX0_endYear_uX0 3 (by decide) rfl eX0_endYear_f18 rfl dX0_endYear_57 ?_
      refine z_iconst (v := (1 : Int32)) C dX0_endYear_60 (by decide) ?_
      refine z_iadd C dX0_endYear_61 ?_
      obtain ⟨s3, e_s3, hm⟩ := zLt_of hm
      refine z_put C kX13 vc0 eX0_endYear_uX0 tyX0_ok nmX0 3 (by decide) rfl eX0_endYear_f18 rfl rfl rfl e_s3 dX0_endYear_62 ?_
      exact z_vret0 C hQ (zRt_of hm).1 (zRt_of hm).2 dX0_endYear_65
    · have hm := zIf hm c1
      refine z_aload_n C dX0_endYear_12 rfl 0 rfl ?_
      refine z_iload_n C dX0_endYear_13 rfl 2 rfl ?_
      obtain ⟨x4, s5, q_s5, hm⟩ := zBd_of hm
      refine z_cV (vd := false) (Cn := RX0) (k := 13) C 1 [.int v2] [] (c_X0_leftAt (zC_I C) (zC_st C)  q_s5) gX0_endYear_X0_leftAt (by decide +kernel) kX13 vc0 rfl rfl dX0_endYear_14 rfl ⟨Nat.le_of_ble_eq_true rfl, Nat.le_of_ble_eq_true rfl⟩ rfl (Nat.le_of_ble_eq_true rfl) ?_
      refine z_if_le (tgt := 44) C dX0_endYear_17 (by decide) (fun c6 => ?_) (fun c6 => ?_)
      · have hm := zIt hm c6
        obtain ⟨x7, e_x7, hm⟩ := zLt_of hm
        refine z_iinc (j := 2) (v := x7) (d := (1 : Int32)) (lv' := [(2, .int x7), (0, .ref (ad 13)), (1, .int v1)]) C dX0_endYear_44 rfl (by decide) e_x7 (by decide) rfl ?_
        refine z_goto (tgt := 4) C dX0_endYear_47 (by decide) ?_
        exact z_sub [1, 2, 0] rfl (ih _ _ _ hm)
      · have hm := zIf hm c6
        refine z_aload_n C dX0_endYear_20 rfl 0 rfl ?_
        refine z_getr C kX13 vc0 eX0_endYear_uX0 1 (by decide) rfl eX0_endYear_f15 rfl dX0_endYear_21 ?_
        refine z_iload_n C dX0_endYear_24 rfl 2 rfl ?_
        obtain ⟨x8, s9, q_s9, hm⟩ := zBd_of hm
        refine z_cSN (vd := false) (host := "TaxEngine") C 2 [.ref (ad 15), .int v2] [] (c_X7_at (zC_I C) (zC_st C) kX15 q_s9) gX0_endYear_X7_at_n25 eX0_endYear_n25 eX0_endYear_tX7_at eX0_endYear_iX7_at (by decide +kernel) rfl dX0_endYear_25 rfl ⟨Nat.le_of_ble_eq_true rfl, Nat.le_of_ble_eq_true rfl⟩ rfl (Nat.le_of_ble_eq_true rfl) ?_
        refine z_aload_n C dX0_endYear_28 rfl 0 rfl ?_
        refine z_get C kX13 vc0 eX0_endYear_uX0 3 (by decide) rfl eX0_endYear_f18 rfl dX0_endYear_29 ?_
        refine z_icmp_le (tgt := 44) C dX0_endYear_32 (by decide) (fun c10 => ?_) (fun c10 => ?_)
        · have hm := zIt hm c10
          obtain ⟨x11, e_x11, hm⟩ := zLt_of hm
          refine z_iinc (j := 2) (v := x11) (d := (1 : Int32)) (lv' := [(2, .int x11), (0, .ref (ad 13)), (1, .int v1)]) C dX0_endYear_44 rfl (by decide) e_x11 (by decide) rfl ?_
          refine z_goto (tgt := 4) C dX0_endYear_47 (by decide) ?_
          exact z_sub [1, 2, 0] rfl (ih _ _ _ hm)
        · have hm := zIf hm c10
          refine z_aload_n C dX0_endYear_35 rfl 0 rfl ?_
          refine z_iload_n C dX0_endYear_36 rfl 2 rfl ?_
          refine z_iload_n C dX0_endYear_37 rfl 1 rfl ?_
          obtain ⟨x12, s13, q_s13, hm⟩ := zBd_of hm
          refine z_cV (vd := true) (Cn := RX0) (k := 13) C 2 [.int v2, .int v1] [] (c_X0_move (zC_I C) (zC_st C)  q_s13) gX0_endYear_X0_move (by decide +kernel) kX13 vc0 rfl rfl dX0_endYear_38 rfl ⟨Nat.le_of_ble_eq_true rfl, Nat.le_of_ble_eq_true rfl⟩ rfl (Nat.le_of_ble_eq_true rfl) ?_
          obtain ⟨x14, e_x14, hm⟩ := zLt_of hm
          refine z_iinc (j := 1) (v := x14) (d := (1 : Int32)) (lv' := [(1, .int x14), (0, .ref (ad 13)), (2, .int v2)]) C dX0_endYear_41 rfl (by decide) e_x14 (by decide) rfl ?_
          obtain ⟨x15, e_x15, hm⟩ := zLt_of hm
          refine z_iinc (j := 2) (v := x15) (d := (1 : Int32)) (lv' := [(2, .int x15), (1, .int x14), (0, .ref (ad 13))]) C dX0_endYear_44 rfl (by decide) e_x15 (by decide) rfl ?_
          refine z_goto (tgt := 4) C dX0_endYear_47 (by decide) ?_
          exact z_sub [2, 1, 0] rfl (ih _ _ _ hm)
set_option maxRecDepth 100000 in
set_option maxHeartbeats 4000000 in
theorem w_X0_endYear_e {h : zH} {ad : Nat → Nat} {G : zG} (C : zC h ad zLX 3 G cX0_endYear RX0 wsX0_endYear 2 44) {n : Nat} {r : Int32} {s9 : zS} (hQ : zQ h ad zLX G true (.inl r) s9 none)  (s : zS) (hm : m_X0_endYear n s = some (r, s9)) : zV h ad zLX 3 G s 0 [(0, .ref (ad 13))] [] := by
  rw [m_X0_endYear] at hm
  refine z_iconst (v := (0 : Int32)) C dX0_endYear_0 (by decide) ?_
  refine z_istore_n (y := (0 : Int32)) (lv' := [(1, .int (0 : Int32)), (0, .ref (ad 13))]) C dX0_endYear_1 rfl (by decide) rfl rfl ?_
  refine z_iconst (v := (0 : Int32)) C dX0_endYear_2 (by decide) ?_
  refine z_istore_n (y := (0 : Int32)) (lv' := [(2, .int (0 : Int32)), (1, .int (0 : Int32)), (0, .ref (ad 13))]) C dX0_endYear_3 rfl (by decide) rfl rfl ?_
  exact z_sub [2, 1, 0] rfl (w_X0_endYear_j4 C hQ  _ _ _ _ hm)
set_option maxRecDepth 100000 in
set_option maxHeartbeats 4000000 in
theorem c_X0_endYear {h : zH} {ad : Nat → Nat} (hI : zI ad zLX.length) (hst : h.1.stackTraces = false) {n : Nat} {s s9 : zS} {r : Int32} (hm : m_X0_endYear n s = some (r, s9)) : zMR h ad zLX true yX0_endYear wsX0_endYear 2 44 [.ref (ad 13)] s (.inl r) s9 :=
  z_start (cc := cX0_endYear) (nL := 3) (ret := none) (own := RX0) (by decide +kernel) rfl rfl hI hst (Nat.le_of_ble_eq_true rfl) (fun G C hQ => w_X0_endYear_e C hQ _ hm)
set_option maxRecDepth 100000 in
theorem eX1_size_uX1 : ∀ w ∈ wsX10, w ∈ wsX1_size := by decide +kernel
set_option maxRecDepth 100000 in
theorem eX1_size_f18 : Cond.fieldLink RX1 18 RX1 (TX1 2).2.1 (TX1 2).2.2.1 ∈ wsX1_size := by decide +kernel
set_option maxRecDepth 100000 in
set_option maxHeartbeats 4000000 in
theorem w_X1_size_e {h : zH} {ad : Nat → Nat} {G : zG} (C : zC h ad zLX 1 G cX1_size RX1 wsX1_size 0 0) {n : Nat} {r : Int32} {s9 : zS} (hQ : zQ h ad zLX G false (.inl r) s9 (some .int))  (s : zS) (hm : m_X1_size n s = some (r, s9)) : zV h ad zLX 1 G s 0 [(0, .ref (ad 10))] [] := by
  rw [m_X1_size] at hm
  refine z_aload_n C dX1_size_0 rfl 0 rfl ?_
  refine z_get C kX10 vc1 eX1_size_uX1 2 (by decide) rfl eX1_size_f18 rfl dX1_size_1 ?_
  exact z_iret0 C hQ (zRt_of hm).1 (zRt_of hm).2 dX1_size_4
set_option maxRecDepth 100000 in
set_option maxHeartbeats 4000000 in
theorem c_X1_size {h : zH} {ad : Nat → Nat} (hI : zI ad zLX.length) (hst : h.1.stackTraces = false) {n : Nat} {s s9 : zS} {r : Int32} (hm : m_X1_size n s = some (r, s9)) : zMR h ad zLX false yX1_size wsX1_size 0 0 [.ref (ad 10)] s (.inl r) s9 :=
  z_start (cc := cX1_size) (nL := 1) (ret := (some .int)) (own := RX1) (by decide +kernel) rfl rfl hI hst (Nat.le_of_ble_eq_true rfl) (fun G C hQ => w_X1_size_e C hQ _ hm)
set_option maxRecDepth 100000 in
theorem eX1_clear_uX1 : ∀ w ∈ wsX10, w ∈ wsX1_clear := by decide +kernel
set_option maxRecDepth 100000 in
theorem eX1_clear_f18 : Cond.fieldLink RX1 18 RX1 (TX1 2).2.1 (TX1 2).2.2.1 ∈ wsX1_clear := by decide +kernel
set_option maxRecDepth 100000 in
set_option maxHeartbeats 4000000 in
theorem w_X1_clear_e {h : zH} {ad : Nat → Nat} {G : zG} (C : zC h ad zLX 1 G cX1_clear RX1 wsX1_clear 0 0) {n : Nat} {r : Int32} {s9 : zS} (hQ : zQ h ad zLX G true (.inl r) s9 none)  (s : zS) (hm : m_X1_clear n s = some (r, s9)) : zV h ad zLX 1 G s 0 [(0, .ref (ad 10))] [] := by
  rw [m_X1_clear] at hm
  refine z_aload_n C dX1_clear_0 rfl 0 rfl ?_
  refine z_iconst (v := (0 : Int32)) C dX1_clear_1 (by decide) ?_
  obtain ⟨s1, e_s1, hm⟩ := zLt_of hm
  refine z_put C kX10 vc1 eX1_clear_uX1 tyX1_ok nmX1 2 (by decide) rfl eX1_clear_f18 rfl rfl rfl e_s1 dX1_clear_2 ?_
  exact z_vret0 C hQ (zRt_of hm).1 (zRt_of hm).2 dX1_clear_5
set_option maxRecDepth 100000 in
set_option maxHeartbeats 4000000 in
theorem c_X1_clear {h : zH} {ad : Nat → Nat} (hI : zI ad zLX.length) (hst : h.1.stackTraces = false) {n : Nat} {s s9 : zS} {r : Int32} (hm : m_X1_clear n s = some (r, s9)) : zMR h ad zLX true yX1_clear wsX1_clear 0 0 [.ref (ad 10)] s (.inl r) s9 :=
  z_start (cc := cX1_clear) (nL := 1) (ret := none) (own := RX1) (by decide +kernel) rfl rfl hI hst (Nat.le_of_ble_eq_true rfl) (fun G C hQ => w_X1_clear_e C hQ _ hm)
set_option maxRecDepth 100000 in
theorem eX1_placeFor_uX1 : ∀ w ∈ wsX10, w ∈ wsX1_placeFor := by decide +kernel
set_option maxRecDepth 100000 in
theorem eX1_placeFor_f18 : Cond.fieldLink RX1 18 RX1 (TX1 2).2.1 (TX1 2).2.2.1 ∈ wsX1_placeFor := by decide +kernel
set_option maxRecDepth 100000 in
theorem eX1_placeFor_f9 : Cond.fieldLink RX1 9 RX1 (TX1 0).2.1 (TX1 0).2.2.1 ∈ wsX1_placeFor := by decide +kernel
set_option maxRecDepth 100000 in
theorem eX1_placeFor_tX7_at : Cond.static yX7_at ∈ wsX1_placeFor := by decide +kernel
set_option maxRecDepth 100000 in
theorem eX1_placeFor_iX7_at : Cond.initialized yX7_at.cls ∈ wsX1_placeFor := by decide +kernel
set_option maxRecDepth 100000 in
theorem eX1_placeFor_n30 : (RX1, 30, yX7_at, "TaxEngine") ∈ zN := by decide +kernel
set_option maxRecDepth 100000 in
set_option maxHeartbeats 4000000 in
theorem w_X1_placeFor_j2 {h : zH} {ad : Nat → Nat} {G : zG} (C : zC h ad zLX 3 G cX1_placeFor RX1 wsX1_placeFor 1 21) {n : Nat} {r : Int32} {s9 : zS} (hQ : zQ h ad zLX G false (.inl r) s9 (some .int)) : ∀ (f : Nat) (v1 : Int32) (v2 : Int32) (s : zS), m_X1_placeFor_j2 n f v1 v2 s = some (r, s9) → zV h ad zLX 3 G s 2 [(0, .ref (ad 10)), (1, .int v1), (2, .int v2)] [] := by
  intro f
  induction f with
  | zero => intro v1 v2 s hm; simp [m_X1_placeFor_j2] at hm
  | succ f ih =>
    intro v1 v2 s hm
    rw [m_X1_placeFor_j2] at hm
    refine z_iload_n C dX1_placeFor_2 rfl 2 rfl ?_
    refine z_aload_n C dX1_placeFor_3 rfl 0 rfl ?_
    refine z_get C kX10 vc1 eX1_placeFor_uX1 2 (by decide) rfl eX1_placeFor_f18 rfl dX1_placeFor_4 ?_
    refine z_icmp_ge (tgt := 28) C dX1_placeFor_7 (by decide) (fun c1 => ?_) (fun c1 => ?_)
    · have hm := zIt hm c1
      refine z_iload_n C dX1_placeFor_28 rfl 2 rfl ?_
      exact z_iret0 C hQ (zRt_of hm).1 (zRt_of hm).2 dX1_placeFor_29
    · have hm := zIf hm c1
      refine z_aload_n C dX1_placeFor_10 rfl 0 rfl ?_
      refine z_getr C kX10 vc1 eX1_placeFor_uX1 0 (by decide) rfl eX1_placeFor_f9 rfl dX1_placeFor_11 ?_
      refine z_iload_n C dX1_placeFor_14 rfl 2 rfl ?_
      obtain ⟨x2, s3, q_s3, hm⟩ := zBd_of hm
      refine z_cSN (vd := false) (host := "TaxEngine") C 2 [.ref (ad 11), .int v2] [] (c_X7_at (zC_I C) (zC_st C) kX11 q_s3) gX1_placeFor_X7_at_n30 eX1_placeFor_n30 eX1_placeFor_tX7_at eX1_placeFor_iX7_at (by decide +kernel) rfl dX1_placeFor_15 rfl ⟨Nat.le_of_ble_eq_true rfl, Nat.le_of_ble_eq_true rfl⟩ rfl (Nat.le_of_ble_eq_true rfl) ?_
      refine z_iload_n C dX1_placeFor_18 rfl 1 rfl ?_
      refine z_icmp_ge (tgt := 28) C dX1_placeFor_19 (by decide) (fun c4 => ?_) (fun c4 => ?_)
      · have hm := zIt hm c4
        refine z_iload_n C dX1_placeFor_28 rfl 2 rfl ?_
        exact z_iret0 C hQ (zRt_of hm).1 (zRt_of hm).2 dX1_placeFor_29
      · have hm := zIf hm c4
        obtain ⟨x5, e_x5, hm⟩ := zLt_of hm
        refine z_iinc (j := 2) (v := x5) (d := (1 : Int32)) (lv' := [(2, .int x5), (0, .ref (ad 10)), (1, .int v1)]) C dX1_placeFor_22 rfl (by decide) e_x5 (by decide) rfl ?_
        refine z_goto (tgt := 2) C dX1_placeFor_25 (by decide) ?_
        exact z_sub [1, 2, 0] rfl (ih _ _ _ hm)
set_option maxRecDepth 100000 in
set_option maxHeartbeats 4000000 in
theorem w_X1_placeFor_e {h : zH} {ad : Nat → Nat} {G : zG} (C : zC h ad zLX 3 G cX1_placeFor RX1 wsX1_placeFor 1 21) {n : Nat} {r : Int32} {s9 : zS} (hQ : zQ h ad zLX G false (.inl r) s9 (some .int)) {v1 : Int32} (s : zS) (hm : m_X1_placeFor n v1 s = some (r, s9)) : zV h ad zLX 3 G s 0 [(0, .ref (ad 10)), (1, .int v1)] [] := by
  rw [m_X1_placeFor] at hm
  refine z_iconst (v := (0 : Int32)) C dX1_placeFor_0 (by decide) ?_
  refine z_istore_n (y := (0 : Int32)) (lv' := [(2, .int (0 : Int32)), (0, .ref (ad 10)), (1, .int v1)]) C dX1_placeFor_1 rfl (by decide) rfl rfl ?_
  exact z_sub [1, 2, 0] rfl (w_X1_placeFor_j2 C hQ  _ _ _ _ hm)
set_option maxRecDepth 100000 in
set_option maxHeartbeats 4000000 in
theorem c_X1_placeFor {h : zH} {ad : Nat → Nat} (hI : zI ad zLX.length) (hst : h.1.stackTraces = false) {n : Nat} {v1 : Int32} {s s9 : zS} {r : Int32} (hm : m_X1_placeFor n v1 s = some (r, s9)) : zMR h ad zLX false yX1_placeFor wsX1_placeFor 1 21 [.ref (ad 10), .int v1] s (.inl r) s9 :=
  z_start (cc := cX1_placeFor) (nL := 3) (ret := (some .int)) (own := RX1) (by decide +kernel) rfl rfl hI hst (Nat.le_of_ble_eq_true rfl) (fun G C hQ => w_X1_placeFor_e C hQ _ hm)
set_option maxRecDepth 100000 in
theorem eX1_isAt_uX1 : ∀ w ∈ wsX10, w ∈ wsX1_isAt := by decide +kernel
set_option maxRecDepth 100000 in
theorem eX1_isAt_f18 : Cond.fieldLink RX1 18 RX1 (TX1 2).2.1 (TX1 2).2.2.1 ∈ wsX1_isAt := by decide +kernel
set_option maxRecDepth 100000 in
theorem eX1_isAt_f9 : Cond.fieldLink RX1 9 RX1 (TX1 0).2.1 (TX1 0).2.2.1 ∈ wsX1_isAt := by decide +kernel
set_option maxRecDepth 100000 in
theorem eX1_isAt_tX7_at : Cond.static yX7_at ∈ wsX1_isAt := by decide +kernel
set_option maxRecDepth 100000 in
theorem eX1_isAt_iX7_at : Cond.initialized yX7_at.cls ∈ wsX1_isAt := by decide +kernel
set_option maxRecDepth 100000 in
theorem eX1_isAt_n30 : (RX1, 30, yX7_at, "TaxEngine") ∈ zN := by decide +kernel
set_option maxRecDepth 100000 in
set_option maxHeartbeats 4000000 in
theorem w_X1_isAt_e {h : zH} {ad : Nat → Nat} {G : zG} (C : zC h ad zLX 3 G cX1_isAt RX1 wsX1_isAt 1 21) {n : Nat} {r : Int32} {s9 : zS} (hQ : zQ h ad zLX G false (.inl r) s9 (some .boolean)) {v1 : Int32} {v2 : Int32} (s : zS) (hm : m_X1_isAt n v1 v2 s = some (r, s9)) : zV h ad zLX 3 G s 0 [(0, .ref (ad 10)), (1, .int v1), (2, .int v2)] [] := by
  rw [m_X1_isAt] at hm
  refine z_iload_n C dX1_isAt_0 rfl 1 rfl ?_
  refine z_aload_n C dX1_isAt_1 rfl 0 rfl ?_
  refine z_get C kX10 vc1 eX1_isAt_uX1 2 (by decide) rfl eX1_isAt_f18 rfl dX1_isAt_2 ?_
  refine z_icmp_ge (tgt := 24) C dX1_isAt_5 (by decide) (fun c1 => ?_) (fun c1 => ?_)
  · have hm := zIt hm c1
    refine z_iconst (v := (0 : Int32)) C dX1_isAt_24 (by decide) ?_
    exact z_zret0 C hQ (zRt_of hm).1 (zRt_of hm).2 (by decide) dX1_isAt_25
  · have hm := zIf hm c1
    refine z_aload_n C dX1_isAt_8 rfl 0 rfl ?_
    refine z_getr C kX10 vc1 eX1_isAt_uX1 0 (by decide) rfl eX1_isAt_f9 rfl dX1_isAt_9 ?_
    refine z_iload_n C dX1_isAt_12 rfl 1 rfl ?_
    obtain ⟨x2, s3, q_s3, hm⟩ := zBd_of hm
    refine z_cSN (vd := false) (host := "TaxEngine") C 2 [.ref (ad 11), .int v1] [] (c_X7_at (zC_I C) (zC_st C) kX11 q_s3) gX1_isAt_X7_at_n30 eX1_isAt_n30 eX1_isAt_tX7_at eX1_isAt_iX7_at (by decide +kernel) rfl dX1_isAt_13 rfl ⟨Nat.le_of_ble_eq_true rfl, Nat.le_of_ble_eq_true rfl⟩ rfl (Nat.le_of_ble_eq_true rfl) ?_
    refine z_iload_n C dX1_isAt_16 rfl 2 rfl ?_
    refine z_icmp_ne (tgt := 24) C dX1_isAt_17 (by decide) (fun c4 => ?_) (fun c4 => ?_)
    · have hm := zIf hm c4
      refine z_iconst (v := (0 : Int32)) C dX1_isAt_24 (by decide) ?_
      exact z_zret0 C hQ (zRt_of hm).1 (zRt_of hm).2 (by decide) dX1_isAt_25
    · have hm := zIt hm c4
      refine z_iconst (v := (1 : Int32)) C dX1_isAt_20 (by decide) ?_
      refine z_goto (tgt := 25) C dX1_isAt_21 (by decide) ?_
      exact z_zret0 C hQ (zRt_of hm).1 (zRt_of hm).2 (by decide) dX1_isAt_25
set_option maxRecDepth 100000 in
set_option maxHeartbeats 4000000 in
theorem c_X1_isAt {h : zH} {ad : Nat → Nat} (hI : zI ad zLX.length) (hst : h.1.stackTraces = false) {n : Nat} {v1 : Int32} {v2 : Int32} {s s9 : zS} {r : Int32} (hm : m_X1_isAt n v1 v2 s = some (r, s9)) : zMR h ad zLX false yX1_isAt wsX1_isAt 1 21 [.ref (ad 10), .int v1, .int v2] s (.inl r) s9 :=
  z_start (cc := cX1_isAt) (nL := 3) (ret := (some .boolean)) (own := RX1) (by decide +kernel) rfl rfl hI hst (Nat.le_of_ble_eq_true rfl) (fun G C hQ => w_X1_isAt_e C hQ _ hm)
set_option maxRecDepth 100000 in
theorem eX1_hasRoomFor_uX1 : ∀ w ∈ wsX10, w ∈ wsX1_hasRoomFor := by decide +kernel
set_option maxRecDepth 100000 in
theorem eX1_hasRoomFor_f18 : Cond.fieldLink RX1 18 RX1 (TX1 2).2.1 (TX1 2).2.2.1 ∈ wsX1_hasRoomFor := by decide +kernel
set_option maxRecDepth 100000 in
set_option maxHeartbeats 4000000 in
theorem w_X1_hasRoomFor_e {h : zH} {ad : Nat → Nat} {G : zG} (C : zC h ad zLX 2 G cX1_hasRoomFor RX1 wsX1_hasRoomFor 2 43) {n : Nat} {r : Int32} {s9 : zS} (hQ : zQ h ad zLX G false (.inl r) s9 (some .boolean)) {v1 : Int32} (s : zS) (hm : m_X1_hasRoomFor n v1 s = some (r, s9)) : zV h ad zLX 2 G s 0 [(0, .ref (ad 10)), (1, .int v1)] [] := by
  rw [m_X1_hasRoomFor] at hm
  refine z_aload_n C dX1_hasRoomFor_0 rfl 0 rfl ?_
  refine z_get C kX10 vc1 eX1_hasRoomFor_uX1 2 (by decide) rfl eX1_hasRoomFor_f18 rfl dX1_hasRoomFor_1 ?_
  refine z_iconst (v := (5 : Int32)) C dX1_hasRoomFor_4 (by decide) ?_
  refine z_icmp_lt (tgt := 21) C dX1_hasRoomFor_5 (by decide) (fun c1 => ?_) (fun c1 => ?_)
  · have hm := zIt hm c1
    refine z_iconst (v := (1 : Int32)) C dX1_hasRoomFor_21 (by decide) ?_
    refine z_goto (tgt := 26) C dX1_hasRoomFor_22 (by decide) ?_
    exact z_zret0 C hQ (zRt_of hm).1 (zRt_of hm).2 (by decide) dX1_hasRoomFor_26
  · have hm := zIf hm c1
    refine z_aload_n C dX1_hasRoomFor_8 rfl 0 rfl ?_
    refine z_aload_n C dX1_hasRoomFor_9 rfl 0 rfl ?_
    refine z_iload_n C dX1_hasRoomFor_10 rfl 1 rfl ?_
    obtain ⟨x2, s3, q_s3, hm⟩ := zBd_of hm
    refine z_cV (vd := false) (Cn := RX1) (k := 10) C 1 [.int v1] [.ref (ad 10)] (c_X1_placeFor (zC_I C) (zC_st C)  q_s3) gX1_hasRoomFor_X1_placeFor (by decide +kernel) kX10 vc1 rfl rfl dX1_hasRoomFor_11 rfl ⟨Nat.le_of_ble_eq_true rfl, Nat.le_of_ble_eq_true rfl⟩ rfl (Nat.le_of_ble_eq_true rfl) ?_
    refine z_iload_n C dX1_hasRoomFor_14 rfl 1 rfl ?_
    obtain ⟨x4, s5, q_s5, hm⟩ := zBd_of hm
    refine z_cV (vd := false) (Cn := RX1) (k := 10) C 2 [.int x2, .int v1] [] (c_X1_isAt (zC_I C) (zC_st C)  q_s5) gX1_hasRoomFor_X1_isAt (by decide +kernel) kX10 vc1 rfl rfl dX1_hasRoomFor_15 rfl ⟨Nat.le_of_ble_eq_true rfl, Nat.le_of_ble_eq_true rfl⟩ rfl (Nat.le_of_ble_eq_true rfl) ?_
    refine z_if_eq (tgt := 25) C dX1_hasRoomFor_18 (by decide) (fun c6 => ?_) (fun c6 => ?_)
    · have hm := zIt hm c6
      refine z_iconst (v := (0 : Int32)) C dX1_hasRoomFor_25 (by decide) ?_
      exact z_zret0 C hQ (zRt_of hm).1 (zRt_of hm).2 (by decide) dX1_hasRoomFor_26
    · have hm := zIf hm c6
      refine z_iconst (v := (1 : Int32)) C dX1_hasRoomFor_21 (by decide) ?_
      refine z_goto (tgt := 26) C dX1_hasRoomFor_22 (by decide) ?_
      exact z_zret0 C hQ (zRt_of hm).1 (zRt_of hm).2 (by decide) dX1_hasRoomFor_26
set_option maxRecDepth 100000 in
set_option maxHeartbeats 4000000 in
theorem c_X1_hasRoomFor {h : zH} {ad : Nat → Nat} (hI : zI ad zLX.length) (hst : h.1.stackTraces = false) {n : Nat} {v1 : Int32} {s s9 : zS} {r : Int32} (hm : m_X1_hasRoomFor n v1 s = some (r, s9)) : zMR h ad zLX false yX1_hasRoomFor wsX1_hasRoomFor 2 43 [.ref (ad 10), .int v1] s (.inl r) s9 :=
  z_start (cc := cX1_hasRoomFor) (nL := 2) (ret := (some .boolean)) (own := RX1) (by decide +kernel) rfl rfl hI hst (Nat.le_of_ble_eq_true rfl) (fun G C hQ => w_X1_hasRoomFor_e C hQ _ hm)
set_option maxRecDepth 100000 in
theorem eX1_set_uX1 : ∀ w ∈ wsX10, w ∈ wsX1_set := by decide +kernel
set_option maxRecDepth 100000 in
theorem eX1_set_f9 : Cond.fieldLink RX1 9 RX1 (TX1 0).2.1 (TX1 0).2.2.1 ∈ wsX1_set := by decide +kernel
set_option maxRecDepth 100000 in
theorem eX1_set_tX7_put : Cond.static yX7_put ∈ wsX1_set := by decide +kernel
set_option maxRecDepth 100000 in
theorem eX1_set_iX7_put : Cond.initialized yX7_put.cls ∈ wsX1_set := by decide +kernel
set_option maxRecDepth 100000 in
theorem eX1_set_n34 : (RX1, 34, yX7_put, "TaxEngine") ∈ zN := by decide +kernel
set_option maxRecDepth 100000 in
theorem eX1_set_f18 : Cond.fieldLink RX1 18 RX1 (TX1 2).2.1 (TX1 2).2.2.1 ∈ wsX1_set := by decide +kernel
set_option maxRecDepth 100000 in
theorem eX1_set_f15 : Cond.fieldLink RX1 15 RX1 (TX1 1).2.1 (TX1 1).2.2.1 ∈ wsX1_set := by decide +kernel
set_option maxRecDepth 100000 in
theorem eX1_set_tX7_at : Cond.static yX7_at ∈ wsX1_set := by decide +kernel
set_option maxRecDepth 100000 in
theorem eX1_set_iX7_at : Cond.initialized yX7_at.cls ∈ wsX1_set := by decide +kernel
set_option maxRecDepth 100000 in
theorem eX1_set_n30 : (RX1, 30, yX7_at, "TaxEngine") ∈ zN := by decide +kernel
set_option maxRecDepth 100000 in
set_option maxHeartbeats 4000000 in
theorem w_X1_set_j23 {h : zH} {ad : Nat → Nat} {G : zG} (C : zC h ad zLX 5 G cX1_set RX1 wsX1_set 2 43) {n : Nat} {r : Int32} {s9 : zS} (hQ : zQ h ad zLX G true (.inl r) s9 none) : ∀ (f : Nat) (v1 : Int32) (v2 : Int32) (v3 : Int32) (v4 : Int32) (s : zS), m_X1_set_j23 n f v1 v2 v3 v4 s = some (r, s9) → zV h ad zLX 5 G s 23 [(0, .ref (ad 10)), (1, .int v1), (2, .int v2), (3, .int v3), (4, .int v4)] [] := by
  intro f
  induction f with
  | zero => intro v1 v2 v3 v4 s hm; simp [m_X1_set_j23] at hm
  | succ f ih =>
    intro v1 v2 v3 v4 s hm
    rw [m_X1_set_j23] at hm
    refine z_iload C dX1_set_23 4 rfl ?_
    refine z_iload_n C dX1_set_25 rfl 3 rfl ?_
    refine z_icmp_lt (tgt := 75) C dX1_set_26 (by decide) (fun c1 => ?_) (fun c1 => ?_)
    · have hm := zIt hm c1
      refine z_aload_n C dX1_set_75 rfl 0 rfl ?_
      refine z_getr C kX10 vc1 eX1_set_uX1 0 (by decide) rfl eX1_set_f9 rfl dX1_set_76 ?_
      refine z_iload_n C dX1_set_79 rfl 3 rfl ?_
      refine z_iload_n C dX1_set_80 rfl 1 rfl ?_
      obtain ⟨x2, s3, q_s3, hm⟩ := zBd_of hm
      refine z_cSN (vd := true) (host := "TaxEngine") C 3 [.ref (ad 11), .int v3, .int v1] [] (c_X7_put (zC_I C) (zC_st C) kX11 q_s3) gX1_set_X7_put_n34 eX1_set_n34 eX1_set_tX7_put eX1_set_iX7_put (by decide +kernel) rfl dX1_set_81 rfl ⟨Nat.le_of_ble_eq_true rfl, Nat.le_of_ble_eq_true rfl⟩ rfl (Nat.le_of_ble_eq_true rfl) ?_
      refine z_aload_n C dX1_set_84 rfl 0 rfl ?_
      refine z_dup C dX1_set_85 rfl ?_
      refine z_get C kX10 vc1 eX1_set_uX1 2 (by decide) rfl eX1_set_f18 rfl dX1_set_86 ?_
      refine z_iconst (v := (1 : Int32)) C dX1_set_89 (by decide) ?_
      refine z_iadd C dX1_set_90 ?_
      obtain ⟨s4, e_s4, hm⟩ := zLt_of hm
      refine z_put C kX10 vc1 eX1_set_uX1 tyX1_ok nmX1 2 (by decide) rfl eX1_set_f18 rfl rfl rfl e_s4 dX1_set_91 ?_
      refine z_aload_n C dX1_set_94 rfl 0 rfl ?_
      refine z_getr C kX10 vc1 eX1_set_uX1 1 (by decide) rfl eX1_set_f15 rfl dX1_set_95 ?_
      refine z_iload_n C dX1_set_98 rfl 3 rfl ?_
      refine z_iload_n C dX1_set_99 rfl 2 rfl ?_
      obtain ⟨x5, s6, q_s6, hm⟩ := zBd_of hm
      refine z_cSN (vd := true) (host := "TaxEngine") C 3 [.ref (ad 12), .int v3, .int v2] [] (c_X7_put (zC_I C) (zC_st C) kX12 q_s6) gX1_set_X7_put_n34 eX1_set_n34 eX1_set_tX7_put eX1_set_iX7_put (by decide +kernel) rfl dX1_set_100 rfl ⟨Nat.le_of_ble_eq_true rfl, Nat.le_of_ble_eq_true rfl⟩ rfl (Nat.le_of_ble_eq_true rfl) ?_
      exact z_vret0 C hQ (zRt_of hm).1 (zRt_of hm).2 dX1_set_103
    · have hm := zIf hm c1
      refine z_aload_n C dX1_set_29 rfl 0 rfl ?_
      refine z_getr C kX10 vc1 eX1_set_uX1 0 (by decide) rfl eX1_set_f9 rfl dX1_set_30 ?_
      refine z_iload C dX1_set_33 4 rfl ?_
      refine z_iconst (v := (1 : Int32)) C dX1_set_35 (by decide) ?_
      refine z_iadd C dX1_set_36 ?_
      refine z_aload_n C dX1_set_37 rfl 0 rfl ?_
      refine z_getr C kX10 vc1 eX1_set_uX1 0 (by decide) rfl eX1_set_f9 rfl dX1_set_38 ?_
      refine z_iload C dX1_set_41 4 rfl ?_
      obtain ⟨x7, s8, q_s8, hm⟩ := zBd_of hm
      refine z_cSN (vd := false) (host := "TaxEngine") C 2 [.ref (ad 11), .int v4] [.int (v4 + (1 : Int32)), .ref (ad 11)] (c_X7_at (zC_I C) (zC_st C) kX11 q_s8) gX1_set_X7_at_n30 eX1_set_n30 eX1_set_tX7_at eX1_set_iX7_at (by decide +kernel) rfl dX1_set_43 rfl ⟨Nat.le_of_ble_eq_true rfl, Nat.le_of_ble_eq_true rfl⟩ rfl (Nat.le_of_ble_eq_true rfl) ?_
      obtain ⟨x9, s10, q_s10, hm⟩ := zBd_of hm
      refine z_cSN (vd := true) (host := "TaxEngine") C 3 [.ref (ad 11), .int (v4 + (1 : Int32)), .int x7] [] (c_X7_put (zC_I C) (zC_st C) kX11 q_s10) gX1_set_X7_put_n34 eX1_set_n34 eX1_set_tX7_put eX1_set_iX7_put (by decide +kernel) rfl dX1_set_46 rfl ⟨Nat.le_of_ble_eq_true rfl, Nat.le_of_ble_eq_true rfl⟩ rfl (Nat.le_of_ble_eq_true rfl) ?_
      refine z_aload_n C dX1_set_49 rfl 0 rfl ?_
      refine z_getr C kX10 vc1 eX1_set_uX1 1 (by decide) rfl eX1_set_f15 rfl dX1_set_50 ?_
      refine z_iload C dX1_set_53 4 rfl ?_
      refine z_iconst (v := (1 : Int32)) C dX1_set_55 (by decide) ?_
      refine z_iadd C dX1_set_56 ?_
      refine z_aload_n C dX1_set_57 rfl 0 rfl ?_
      refine z_getr C kX10 vc1 eX1_set_uX1 1 (by decide) rfl eX1_set_f15 rfl dX1_set_58 ?_
      refine z_iload C dX1_set_61 4 rfl ?_
      obtain ⟨x11, s12, q_s12, hm⟩ := zBd_of hm
      refine z_cSN (vd := false) (host := "TaxEngine") C 2 [.ref (ad 12), .int v4] [.int (v4 + (1 : Int32)), .ref (ad 12)] (c_X7_at (zC_I C) (zC_st C) kX12 q_s12) gX1_set_X7_at_n30 eX1_set_n30 eX1_set_tX7_at eX1_set_iX7_at (by decide +kernel) rfl dX1_set_63 rfl ⟨Nat.le_of_ble_eq_true rfl, Nat.le_of_ble_eq_true rfl⟩ rfl (Nat.le_of_ble_eq_true rfl) ?_
      obtain ⟨x13, s14, q_s14, hm⟩ := zBd_of hm
      refine z_cSN (vd := true) (host := "TaxEngine") C 3 [.ref (ad 12), .int (v4 + (1 : Int32)), .int x11] [] (c_X7_put (zC_I C) (zC_st C) kX12 q_s14) gX1_set_X7_put_n34 eX1_set_n34 eX1_set_tX7_put eX1_set_iX7_put (by decide +kernel) rfl dX1_set_66 rfl ⟨Nat.le_of_ble_eq_true rfl, Nat.le_of_ble_eq_true rfl⟩ rfl (Nat.le_of_ble_eq_true rfl) ?_
      obtain ⟨x15, e_x15, hm⟩ := zLt_of hm
      refine z_iinc (j := 4) (v := x15) (d := (-1 : Int32)) (lv' := [(4, .int x15), (0, .ref (ad 10)), (1, .int v1), (2, .int v2), (3, .int v3)]) C dX1_set_69 rfl (by decide) e_x15 (by decide) rfl ?_
      refine z_goto (tgt := 23) C dX1_set_72 (by decide) ?_
      exact z_sub [1, 2, 3, 4, 0] rfl (ih _ _ _ _ _ hm)
set_option maxRecDepth 100000 in
set_option maxHeartbeats 4000000 in
theorem w_X1_set_e {h : zH} {ad : Nat → Nat} {G : zG} (C : zC h ad zLX 5 G cX1_set RX1 wsX1_set 2 43) {n : Nat} {r : Int32} {s9 : zS} (hQ : zQ h ad zLX G true (.inl r) s9 none) {v1 : Int32} {v2 : Int32} (s : zS) (hm : m_X1_set n v1 v2 s = some (r, s9)) : zV h ad zLX 5 G s 0 [(0, .ref (ad 10)), (1, .int v1), (2, .int v2)] [] := by
  rw [m_X1_set] at hm
  refine z_aload_n C dX1_set_0 rfl 0 rfl ?_
  refine z_iload_n C dX1_set_1 rfl 1 rfl ?_
  obtain ⟨x16, s17, q_s17, hm⟩ := zBd_of hm
  refine z_cV (vd := false) (Cn := RX1) (k := 10) C 1 [.int v1] [] (c_X1_placeFor (zC_I C) (zC_st C)  q_s17) gX1_set_X1_placeFor (by decide +kernel) kX10 vc1 rfl rfl dX1_set_2 rfl ⟨Nat.le_of_ble_eq_true rfl, Nat.le_of_ble_eq_true rfl⟩ rfl (Nat.le_of_ble_eq_true rfl) ?_
  refine z_istore_n (y := x16) (lv' := [(3, .int x16), (0, .ref (ad 10)), (1, .int v1), (2, .int v2)]) C dX1_set_5 rfl (by decide) rfl rfl ?_
  refine z_aload_n C dX1_set_6 rfl 1 rfl ?_
  refine z_iload_n C dX1_set_7 rfl 0 rfl ?_
  refine z_iload_n C dX1_set_8 rfl 2 rfl ?_
  obtain ⟨x18, s19, q_s19, hm⟩ := zBd_of hm
  refine z_cV (vd := false) (Cn := RX1) (k := 10) C 2 [.int x16, .int v1] [] (c_X1_isAt (zC_I C) (zC_st C)  q_s19) gX1_set_X1_isAt (by decide +kernel) kX10 vc1 rfl rfl dX1_set_9 rfl ⟨Nat.le_of_ble_eq_true rfl, Nat.le_of_ble_eq_true rfl⟩ rfl (Nat.le_of_ble_eq_true rfl) ?_
  refine z_if_ne (tgt := 94) C dX1_set_12 (by decide) (fun c20 => ?_) (fun c20 => ?_)
  · have hm := zIf hm c20
    refine z_aload_n C dX1_set_94 rfl 1 rfl ?_
    refine z_getr C kX10 vc1 eX1_set_uX1 1 (by decide) rfl eX1_set_f15 rfl dX1_set_95 ?_
    refine z_iload_n C dX1_set_98 rfl 0 rfl ?_
    refine z_iload_n C dX1_set_99 rfl 3 rfl ?_
    obtain ⟨x21, s22, q_s22, hm⟩ := zBd_of hm
    refine z_cSN (vd := true) (host := "TaxEngine") C 3 [.ref (ad 12), .int x16, .int v2] [] (c_X7_put (zC_I C) (zC_st C) kX12 q_s22) gX1_set_X7_put_n34 eX1_set_n34 eX1_set_tX7_put eX1_set_iX7_put (by decide +kernel) rfl dX1_set_100 rfl ⟨Nat.le_of_ble_eq_true rfl, Nat.le_of_ble_eq_true rfl⟩ rfl (Nat.le_of_ble_eq_true rfl) ?_
    exact z_vret0 C hQ (zRt_of hm).1 (zRt_of hm).2 dX1_set_103
  · have hm := zIt hm c20
    refine z_aload_n C dX1_set_15 rfl 1 rfl ?_
    refine z_get C kX10 vc1 eX1_set_uX1 2 (by decide) rfl eX1_set_f18 rfl dX1_set_16 ?_
    refine z_iconst (v := (1 : Int32)) C dX1_set_19 (by decide) ?_
    refine z_isub C dX1_set_20 ?_
    obtain ⟨x23, e_x23, hm⟩ := zLt_of hm
    refine z_istore (y := x23) (lv' := [(4, .int x23), (3, .int x16), (0, .ref (ad 10)), (1, .int v1), (2, .int v2)]) C dX1_set_21 (by decide) e_x23 rfl ?_
    exact z_sub [2, 3, 4, 1, 0] rfl (w_X1_set_j23 C hQ  _ _ _ _ _ _ hm)
set_option maxRecDepth 100000 in
set_option maxHeartbeats 4000000 in
theorem c_X1_set {h : zH} {ad : Nat → Nat} (hI : zI ad zLX.length) (hst : h.1.stackTraces = false) {n : Nat} {v1 : Int32} {v2 : Int32} {s s9 : zS} {r : Int32} (hm : m_X1_set n v1 v2 s = some (r, s9)) : zMR h ad zLX true yX1_set wsX1_set 2 43 [.ref (ad 10), .int v1, .int v2] s (.inl r) s9 :=
  z_start (cc := cX1_set) (nL := 5) (ret := none) (own := RX1) (by decide +kernel) rfl rfl hI hst (Nat.le_of_ble_eq_true rfl) (fun G C hQ => w_X1_set_e C hQ _ hm)
set_option maxRecDepth 100000 in
theorem eX7_thousandths_c205 : Cond.constantLong RX7 205 (1000 : Int64) ∈ wsX7_thousandths := by decide +kernel
set_option maxRecDepth 100000 in
set_option maxHeartbeats 4000000 in
theorem w_X7_thousandths_e {h : zH} {ad : Nat → Nat} {G : zG} (C : zC h ad zLX 2 G cX7_thousandths RX7 wsX7_thousandths 0 0) {n : Nat} {r : Int32} {s9 : zS} (hQ : zQ h ad zLX G false (.inl r) s9 (some .int)) {v0 : Int32} {v1 : Int32} (s : zS) (hm : m_X7_thousandths n v0 v1 s = some (r, s9)) : zV h ad zLX 2 G s 0 [(0, .int v0), (1, .int v1)] [] := by
  rw [m_X7_thousandths] at hm
  refine z_iload_n C dX7_thousandths_0 rfl 0 rfl ?_
  refine z_i2l C dX7_thousandths_1 ?_
  refine z_iload_n C dX7_thousandths_2 rfl 1 rfl ?_
  refine z_i2l C dX7_thousandths_3 ?_
  refine z_lmul C dX7_thousandths_4 ?_
  refine z_ldc2 (v := (1000 : Int64)) C eX7_thousandths_c205 dX7_thousandths_5 ?_
  refine z_ldiv C dX7_thousandths_8 (by decide) ?_
  refine z_l2i C dX7_thousandths_9 ?_
  exact z_iret0 C hQ (zRt_of hm).1 (zRt_of hm).2 dX7_thousandths_10
set_option maxRecDepth 100000 in
set_option maxHeartbeats 4000000 in
theorem c_X7_thousandths {h : zH} {ad : Nat → Nat} (hI : zI ad zLX.length) (hst : h.1.stackTraces = false) {n : Nat} {v0 : Int32} {v1 : Int32} {s s9 : zS} {r : Int32} (hm : m_X7_thousandths n v0 v1 s = some (r, s9)) : zMR h ad zLX false yX7_thousandths wsX7_thousandths 0 0 [.int v0, .int v1] s (.inl r) s9 :=
  z_start (cc := cX7_thousandths) (nL := 2) (ret := (some .int)) (own := RX7) (by decide +kernel) rfl rfl hI hst (Nat.le_of_ble_eq_true rfl) (fun G C hQ => w_X7_thousandths_e C hQ _ hm)
set_option maxRecDepth 100000 in
theorem eX1_tax_uX1 : ∀ w ∈ wsX10, w ∈ wsX1_tax := by decide +kernel
set_option maxRecDepth 100000 in
theorem eX1_tax_f9 : Cond.fieldLink RX1 9 RX1 (TX1 0).2.1 (TX1 0).2.2.1 ∈ wsX1_tax := by decide +kernel
set_option maxRecDepth 100000 in
theorem eX1_tax_tX7_at : Cond.static yX7_at ∈ wsX1_tax := by decide +kernel
set_option maxRecDepth 100000 in
theorem eX1_tax_iX7_at : Cond.initialized yX7_at.cls ∈ wsX1_tax := by decide +kernel
set_option maxRecDepth 100000 in
theorem eX1_tax_n30 : (RX1, 30, yX7_at, "TaxEngine") ∈ zN := by decide +kernel
set_option maxRecDepth 100000 in
theorem eX1_tax_l44 : Cond.methodLink RX1 44 Lib.Math.max.name ∈ wsX1_tax := by decide +kernel
set_option maxRecDepth 100000 in
theorem eX1_tax_stmax : Cond.static Lib.Math.max.name ∈ wsX1_tax := by decide +kernel
set_option maxRecDepth 100000 in
theorem eX1_tax_im : Cond.initialized "java/lang/Math" ∈ wsX1_tax := by decide +kernel
set_option maxRecDepth 100000 in
theorem eX1_tax_cmmax : Cond.code Lib.Math.max.name Lib.Math.max.code 2 (some .int) ∈ wsX1_tax := by decide +kernel
set_option maxRecDepth 100000 in
theorem eX1_tax_f15 : Cond.fieldLink RX1 15 RX1 (TX1 1).2.1 (TX1 1).2.2.1 ∈ wsX1_tax := by decide +kernel
set_option maxRecDepth 100000 in
theorem eX1_tax_tX7_thousandths : Cond.static yX7_thousandths ∈ wsX1_tax := by decide +kernel
set_option maxRecDepth 100000 in
theorem eX1_tax_iX7_thousandths : Cond.initialized yX7_thousandths.cls ∈ wsX1_tax := by decide +kernel
set_option maxRecDepth 100000 in
theorem eX1_tax_n47 : (RX1, 47, yX7_thousandths, "TaxEngine") ∈ zN := by decide +kernel
set_option maxRecDepth 100000 in
theorem eX1_tax_f18 : Cond.fieldLink RX1 18 RX1 (TX1 2).2.1 (TX1 2).2.2.1 ∈ wsX1_tax := by decide +kernel
set_option maxRecDepth 100000 in
theorem eX1_tax_l38 : Cond.methodLink RX1 38 Lib.Math.min.name ∈ wsX1_tax := by decide +kernel
set_option maxRecDepth 100000 in
theorem eX1_tax_stmin : Cond.static Lib.Math.min.name ∈ wsX1_tax := by decide +kernel
set_option maxRecDepth 100000 in
theorem eX1_tax_cmmin : Cond.code Lib.Math.min.name Lib.Math.min.code 2 (some .int) ∈ wsX1_tax := by decide +kernel
set_option maxRecDepth 100000 in
set_option maxHeartbeats 4000000 in
theorem w_X1_tax_j40 {h : zH} {ad : Nat → Nat} {G : zG} (C : zC h ad zLX 6 G cX1_tax RX1 wsX1_tax 1 21) {n : Nat} {r : Int32} {s9 : zS} (hQ : zQ h ad zLX G false (.inl r) s9 (some .int)) {rec4 : Int32 → Int32 → Int32 → zS → Option (Int32 × zS)} (hrec4 : ∀ (v1 : Int32) (v2 : Int32) (v3 : Int32) (s : zS), rec4 v1 v2 v3 s = some (r, s9) → zV h ad zLX 6 G s 4 [(0, .ref (ad 10)), (1, .int v1), (2, .int v2), (3, .int v3)] []) (v1 : Int32) (v2 : Int32) (v3 : Int32) (t0 : Int32) (s : zS) (hm : m_X1_tax_j40 rec4 n v1 v2 v3 t0 s = some (r, s9)) : zV h ad zLX 6 G s 40 [(0, .ref (ad 10)), (1, .int v1), (2, .int v2), (3, .int v3)] [.int t0] := by
  rw [m_X1_tax_j40] at hm
  refine z_istore (y := t0) (lv' := [(4, .int t0), (0, .ref (ad 10)), (1, .int v1), (2, .int v2), (3, .int v3)]) C dX1_tax_40 (by decide) rfl rfl ?_
  refine z_iload C dX1_tax_42 0 rfl ?_
  refine z_aload_n C dX1_tax_44 rfl 1 rfl ?_
  refine z_getr C kX10 vc1 eX1_tax_uX1 0 (by decide) rfl eX1_tax_f9 rfl dX1_tax_45 ?_
  refine z_iload_n C dX1_tax_48 rfl 4 rfl ?_
  obtain ⟨x1, s2, q_s2, hm⟩ := zBd_of hm
  refine z_cSN (vd := false) (host := "TaxEngine") C 2 [.ref (ad 11), .int v3] [.int t0] (c_X7_at (zC_I C) (zC_st C) kX11 q_s2) gX1_tax_X7_at_n30 eX1_tax_n30 eX1_tax_tX7_at eX1_tax_iX7_at (by decide +kernel) rfl dX1_tax_49 rfl ⟨Nat.le_of_ble_eq_true rfl, Nat.le_of_ble_eq_true rfl⟩ rfl (Nat.le_of_ble_eq_true rfl) ?_
  refine z_isub C dX1_tax_52 ?_
  refine z_iconst (v := (0 : Int32)) C dX1_tax_53 (by decide) ?_
  refine z_mmax C eX1_tax_l44 eX1_tax_stmax eX1_tax_im eX1_tax_cmmax (Nat.le_of_ble_eq_true rfl) (Nat.le_of_ble_eq_true rfl) dX1_tax_54 ?_
  obtain ⟨x3, e_x3, hm⟩ := zLt_of hm
  refine z_istore (y := x3) (lv' := [(5, .int x3), (4, .int t0), (0, .ref (ad 10)), (1, .int v1), (2, .int v2), (3, .int v3)]) C dX1_tax_57 (by decide) e_x3 rfl ?_
  refine z_iload_n C dX1_tax_59 rfl 4 rfl ?_
  refine z_iload C dX1_tax_60 0 rfl ?_
  refine z_aload_n C dX1_tax_62 rfl 2 rfl ?_
  refine z_getr C kX10 vc1 eX1_tax_uX1 1 (by decide) rfl eX1_tax_f15 rfl dX1_tax_63 ?_
  refine z_iload_n C dX1_tax_66 rfl 5 rfl ?_
  obtain ⟨x4, s5, q_s5, hm⟩ := zBd_of hm
  refine z_cSN (vd := false) (host := "TaxEngine") C 2 [.ref (ad 12), .int v3] [.int x3, .int v2] (c_X7_at (zC_I C) (zC_st C) kX12 q_s5) gX1_tax_X7_at_n30 eX1_tax_n30 eX1_tax_tX7_at eX1_tax_iX7_at (by decide +kernel) rfl dX1_tax_67 rfl ⟨Nat.le_of_ble_eq_true rfl, Nat.le_of_ble_eq_true rfl⟩ rfl (Nat.le_of_ble_eq_true rfl) ?_
  obtain ⟨x6, s7, q_s7, hm⟩ := zBd_of hm
  refine z_cSN (vd := false) (host := "TaxEngine") C 2 [.int x3, .int x4] [.int v2] (c_X7_thousandths (zC_I C) (zC_st C)  q_s7) gX1_tax_X7_thousandths_n47 eX1_tax_n47 eX1_tax_tX7_thousandths eX1_tax_iX7_thousandths (by decide +kernel) rfl dX1_tax_70 rfl ⟨Nat.le_of_ble_eq_true rfl, Nat.le_of_ble_eq_true rfl⟩ rfl (Nat.le_of_ble_eq_true rfl) ?_
  refine z_iadd C dX1_tax_73 ?_
  obtain ⟨x8, e_x8, hm⟩ := zLt_of hm
  refine z_istore_n (y := x8) (lv' := [(2, .int x8), (5, .int x3), (4, .int t0), (0, .ref (ad 10)), (1, .int v1), (3, .int v3)]) C dX1_tax_74 rfl (by decide) e_x8 rfl ?_
  obtain ⟨x9, e_x9, hm⟩ := zLt_of hm
  refine z_iinc (j := 5) (v := x9) (d := (1 : Int32)) (lv' := [(3, .int x9), (2, .int x8), (5, .int x3), (4, .int t0), (0, .ref (ad 10)), (1, .int v1)]) C dX1_tax_75 rfl (by decide) e_x9 (by decide) rfl ?_
  refine z_goto (tgt := 4) C dX1_tax_78 (by decide) ?_
  exact z_sub [4, 5, 1, 0] rfl (hrec4 _ _ _ _ hm)
set_option maxRecDepth 100000 in
set_option maxHeartbeats 4000000 in
theorem w_X1_tax_j4 {h : zH} {ad : Nat → Nat} {G : zG} (C : zC h ad zLX 6 G cX1_tax RX1 wsX1_tax 1 21) {n : Nat} {r : Int32} {s9 : zS} (hQ : zQ h ad zLX G false (.inl r) s9 (some .int)) : ∀ (f : Nat) (v1 : Int32) (v2 : Int32) (v3 : Int32) (s : zS), m_X1_tax_j4 n f v1 v2 v3 s = some (r, s9) → zV h ad zLX 6 G s 4 [(0, .ref (ad 10)), (1, .int v1), (2, .int v2), (3, .int v3)] [] := by
  intro f
  induction f with
  | zero => intro v1 v2 v3 s hm; simp [m_X1_tax_j4] at hm
  | succ f ih =>
    intro v1 v2 v3 s hm
    rw [m_X1_tax_j4] at hm
    refine z_iload_n C dX1_tax_4 rfl 3 rfl ?_
    refine z_aload_n C dX1_tax_5 rfl 0 rfl ?_
    refine z_get C kX10 vc1 eX1_tax_uX1 2 (by decide) rfl eX1_tax_f18 rfl dX1_tax_6 ?_
    refine z_icmp_ge (tgt := 81) C dX1_tax_9 (by decide) (fun c10 => ?_) (fun c10 => ?_)
    · have hm := zIt hm c10
      refine z_iload_n C dX1_tax_81 rfl 2 rfl ?_
      exact z_iret0 C hQ (zRt_of hm).1 (zRt_of hm).2 dX1_tax_82
    · have hm := zIf hm c10
      refine z_iload_n C dX1_tax_12 rfl 3 rfl ?_
      refine z_iconst (v := (1 : Int32)) C dX1_tax_13 (by decide) ?_
      refine z_iadd C dX1_tax_14 ?_
      refine z_aload_n C dX1_tax_15 rfl 0 rfl ?_
      refine z_get C kX10 vc1 eX1_tax_uX1 2 (by decide) rfl eX1_tax_f18 rfl dX1_tax_16 ?_
      refine z_icmp_ge (tgt := 39) C dX1_tax_19 (by decide) (fun c11 => ?_) (fun c11 => ?_)
      · have hm := zIt hm c11
        refine z_iload_n C dX1_tax_39 rfl 1 rfl ?_
        exact z_sub [0, 1, 2, 3] rfl (w_X1_tax_j40 C hQ ih _ _ _ _ _ hm)
      · have hm := zIf hm c11
        refine z_iload_n C dX1_tax_22 rfl 1 rfl ?_
        refine z_aload_n C dX1_tax_23 rfl 0 rfl ?_
        refine z_getr C kX10 vc1 eX1_tax_uX1 0 (by decide) rfl eX1_tax_f9 rfl dX1_tax_24 ?_
        refine z_iload_n C dX1_tax_27 rfl 3 rfl ?_
        refine z_iconst (v := (1 : Int32)) C dX1_tax_28 (by decide) ?_
        refine z_iadd C dX1_tax_29 ?_
        obtain ⟨x12, s13, q_s13, hm⟩ := zBd_of hm
        refine z_cSN (vd := false) (host := "TaxEngine") C 2 [.ref (ad 11), .int (v3 + (1 : Int32))] [.int v1] (c_X7_at (zC_I C) (zC_st C) kX11 q_s13) gX1_tax_X7_at_n30 eX1_tax_n30 eX1_tax_tX7_at eX1_tax_iX7_at (by decide +kernel) rfl dX1_tax_30 rfl ⟨Nat.le_of_ble_eq_true rfl, Nat.le_of_ble_eq_true rfl⟩ rfl (Nat.le_of_ble_eq_true rfl) ?_
        refine z_mmin C eX1_tax_l38 eX1_tax_stmin eX1_tax_im eX1_tax_cmmin (Nat.le_of_ble_eq_true rfl) (Nat.le_of_ble_eq_true rfl) dX1_tax_33 ?_
        refine z_goto (tgt := 40) C dX1_tax_36 (by decide) ?_
        exact z_sub [0, 1, 2, 3] rfl (w_X1_tax_j40 C hQ ih _ _ _ _ _ hm)
set_option maxRecDepth 100000 in
set_option maxHeartbeats 4000000 in
theorem w_X1_tax_e {h : zH} {ad : Nat → Nat} {G : zG} (C : zC h ad zLX 6 G cX1_tax RX1 wsX1_tax 1 21) {n : Nat} {r : Int32} {s9 : zS} (hQ : zQ h ad zLX G false (.inl r) s9 (some .int)) {v1 : Int32} (s : zS) (hm : m_X1_tax n v1 s = some (r, s9)) : zV h ad zLX 6 G s 0 [(0, .ref (ad 10)), (1, .int v1)] [] := by
  rw [m_X1_tax] at hm
  refine z_iconst (v := (0 : Int32)) C dX1_tax_0 (by decide) ?_
  refine z_istore_n (y := (0 : Int32)) (lv' := [(2, .int (0 : Int32)), (0, .ref (ad 10)), (1, .int v1)]) C dX1_tax_1 rfl (by decide) rfl rfl ?_
  refine z_iconst (v := (0 : Int32)) C dX1_tax_2 (by decide) ?_
  refine z_istore_n (y := (0 : Int32)) (lv' := [(3, .int (0 : Int32)), (2, .int (0 : Int32)), (0, .ref (ad 10)), (1, .int v1)]) C dX1_tax_3 rfl (by decide) rfl rfl ?_
  exact z_sub [2, 3, 1, 0] rfl (w_X1_tax_j4 C hQ  _ _ _ _ _ hm)
set_option maxRecDepth 100000 in
set_option maxHeartbeats 4000000 in
theorem c_X1_tax {h : zH} {ad : Nat → Nat} (hI : zI ad zLX.length) (hst : h.1.stackTraces = false) {n : Nat} {v1 : Int32} {s s9 : zS} {r : Int32} (hm : m_X1_tax n v1 s = some (r, s9)) : zMR h ad zLX false yX1_tax wsX1_tax 1 21 [.ref (ad 10), .int v1] s (.inl r) s9 :=
  z_start (cc := cX1_tax) (nL := 6) (ret := (some .int)) (own := RX1) (by decide +kernel) rfl rfl hI hst (Nat.le_of_ble_eq_true rfl) (fun G C hQ => w_X1_tax_e C hQ _ hm)
set_option maxRecDepth 100000 in
set_option maxHeartbeats 4000000 in
theorem w_X7_bit_e {h : zH} {ad : Nat → Nat} {G : zG} (C : zC h ad zLX 1 G cX7_bit RX7 wsX7_bit 0 0) {n : Nat} {r : Int32} {s9 : zS} (hQ : zQ h ad zLX G false (.inl r) s9 (some .int)) {v0 : Int32} (s : zS) (hm : m_X7_bit n v0 s = some (r, s9)) : zV h ad zLX 1 G s 0 [(0, .int v0)] [] := by
  rw [m_X7_bit] at hm
  refine z_iconst (v := (1 : Int32)) C dX7_bit_0 (by decide) ?_
  refine z_iload_n C dX7_bit_1 rfl 0 rfl ?_
  refine z_ishl C dX7_bit_2 ?_
  exact z_iret0 C hQ (zRt_of hm).1 (zRt_of hm).2 dX7_bit_3
set_option maxRecDepth 100000 in
set_option maxHeartbeats 4000000 in
theorem c_X7_bit {h : zH} {ad : Nat → Nat} (hI : zI ad zLX.length) (hst : h.1.stackTraces = false) {n : Nat} {v0 : Int32} {s s9 : zS} {r : Int32} (hm : m_X7_bit n v0 s = some (r, s9)) : zMR h ad zLX false yX7_bit wsX7_bit 0 0 [.int v0] s (.inl r) s9 :=
  z_start (cc := cX7_bit) (nL := 1) (ret := (some .int)) (own := RX7) (by decide +kernel) rfl rfl hI hst (Nat.le_of_ble_eq_true rfl) (fun G C hQ => w_X7_bit_e C hQ _ hm)
set_option maxRecDepth 100000 in
set_option maxHeartbeats 4000000 in
theorem w_X7_has_e {h : zH} {ad : Nat → Nat} {G : zG} (C : zC h ad zLX 2 G cX7_has RX7 wsX7_has 1 20) {n : Nat} {r : Int32} {s9 : zS} (hQ : zQ h ad zLX G false (.inl r) s9 (some .boolean)) {v0 : Int32} {v1 : Int32} (s : zS) (hm : m_X7_has n v0 v1 s = some (r, s9)) : zV h ad zLX 2 G s 0 [(0, .int v0), (1, .int v1)] [] := by
  rw [m_X7_has] at hm
  refine z_iload_n C dX7_has_0 rfl 0 rfl ?_
  refine z_iload_n C dX7_has_1 rfl 1 rfl ?_
  obtain ⟨x1, s2, q_s2, hm⟩ := zBd_of hm
  refine z_cS (vd := false) C 1 [.int v1] [.int v0] (c_X7_bit (zC_I C) (zC_st C)  q_s2) gX7_has_X7_bit (by decide +kernel) rfl dX7_has_2 rfl ⟨Nat.le_of_ble_eq_true rfl, Nat.le_of_ble_eq_true rfl⟩ rfl (Nat.le_of_ble_eq_true rfl) ?_
  refine z_iand C dX7_has_5 ?_
  refine z_if_eq (tgt := 13) C dX7_has_6 (by decide) (fun c3 => ?_) (fun c3 => ?_)
  · have hm := zIt hm c3
    refine z_iconst (v := (0 : Int32)) C dX7_has_13 (by decide) ?_
    exact z_zret0 C hQ (zRt_of hm).1 (zRt_of hm).2 (by decide) dX7_has_14
  · have hm := zIf hm c3
    refine z_iconst (v := (1 : Int32)) C dX7_has_9 (by decide) ?_
    refine z_goto (tgt := 14) C dX7_has_10 (by decide) ?_
    exact z_zret0 C hQ (zRt_of hm).1 (zRt_of hm).2 (by decide) dX7_has_14
set_option maxRecDepth 100000 in
set_option maxHeartbeats 4000000 in
theorem c_X7_has {h : zH} {ad : Nat → Nat} (hI : zI ad zLX.length) (hst : h.1.stackTraces = false) {n : Nat} {v0 : Int32} {v1 : Int32} {s s9 : zS} {r : Int32} (hm : m_X7_has n v0 v1 s = some (r, s9)) : zMR h ad zLX false yX7_has wsX7_has 1 20 [.int v0, .int v1] s (.inl r) s9 :=
  z_start (cc := cX7_has) (nL := 2) (ret := (some .boolean)) (own := RX7) (by decide +kernel) rfl rfl hI hst (Nat.le_of_ble_eq_true rfl) (fun G C hQ => w_X7_has_e C hQ _ hm)
set_option maxRecDepth 100000 in
theorem eX5_first_uX5 : ∀ w ∈ wsX50, w ∈ wsX5_first := by decide +kernel
set_option maxRecDepth 100000 in
theorem eX5_first_f15 : Cond.fieldLink RX5 15 RX5 (TX5 1).2.1 (TX5 1).2.2.1 ∈ wsX5_first := by decide +kernel
set_option maxRecDepth 100000 in
theorem eX5_first_tX7_at : Cond.static yX7_at ∈ wsX5_first := by decide +kernel
set_option maxRecDepth 100000 in
theorem eX5_first_iX7_at : Cond.initialized yX7_at.cls ∈ wsX5_first := by decide +kernel
set_option maxRecDepth 100000 in
theorem eX5_first_n28 : (RX5, 28, yX7_at, "TaxEngine") ∈ zN := by decide +kernel
set_option maxRecDepth 100000 in
set_option maxHeartbeats 4000000 in
theorem w_X5_first_e {h : zH} {ad : Nat → Nat} {G : zG} (C : zC h ad zLX 2 G cX5_first RX5 wsX5_first 1 21) {n : Nat} {r : Int32} {s9 : zS} (hQ : zQ h ad zLX G false (.inl r) s9 (some .int)) {v1 : Int32} (s : zS) (hm : m_X5_first n v1 s = some (r, s9)) : zV h ad zLX 2 G s 0 [(0, .ref (ad 1)), (1, .int v1)] [] := by
  rw [m_X5_first] at hm
  refine z_aload_n C dX5_first_0 rfl 0 rfl ?_
  refine z_getr C kX1 vc5 eX5_first_uX5 1 (by decide) rfl eX5_first_f15 rfl dX5_first_1 ?_
  refine z_iload_n C dX5_first_4 rfl 1 rfl ?_
  obtain ⟨x1, s2, q_s2, hm⟩ := zBd_of hm
  refine z_cSN (vd := false) (host := "TaxEngine") C 2 [.ref (ad 3), .int v1] [] (c_X7_at (zC_I C) (zC_st C) kX3 q_s2) gX5_first_X7_at_n28 eX5_first_n28 eX5_first_tX7_at eX5_first_iX7_at (by decide +kernel) rfl dX5_first_5 rfl ⟨Nat.le_of_ble_eq_true rfl, Nat.le_of_ble_eq_true rfl⟩ rfl (Nat.le_of_ble_eq_true rfl) ?_
  exact z_iret0 C hQ (zRt_of hm).1 (zRt_of hm).2 dX5_first_8
set_option maxRecDepth 100000 in
set_option maxHeartbeats 4000000 in
theorem c_X5_first {h : zH} {ad : Nat → Nat} (hI : zI ad zLX.length) (hst : h.1.stackTraces = false) {n : Nat} {v1 : Int32} {s s9 : zS} {r : Int32} (hm : m_X5_first n v1 s = some (r, s9)) : zMR h ad zLX false yX5_first wsX5_first 1 21 [.ref (ad 1), .int v1] s (.inl r) s9 :=
  z_start (cc := cX5_first) (nL := 2) (ret := (some .int)) (own := RX5) (by decide +kernel) rfl rfl hI hst (Nat.le_of_ble_eq_true rfl) (fun G C hQ => w_X5_first_e C hQ _ hm)
set_option maxRecDepth 100000 in
theorem eX5_kind_uX5 : ∀ w ∈ wsX50, w ∈ wsX5_kind := by decide +kernel
set_option maxRecDepth 100000 in
theorem eX5_kind_f9 : Cond.fieldLink RX5 9 RX5 (TX5 0).2.1 (TX5 0).2.2.1 ∈ wsX5_kind := by decide +kernel
set_option maxRecDepth 100000 in
theorem eX5_kind_tX7_at : Cond.static yX7_at ∈ wsX5_kind := by decide +kernel
set_option maxRecDepth 100000 in
theorem eX5_kind_iX7_at : Cond.initialized yX7_at.cls ∈ wsX5_kind := by decide +kernel
set_option maxRecDepth 100000 in
theorem eX5_kind_n28 : (RX5, 28, yX7_at, "TaxEngine") ∈ zN := by decide +kernel
set_option maxRecDepth 100000 in
set_option maxHeartbeats 4000000 in
theorem w_X5_kind_e {h : zH} {ad : Nat → Nat} {G : zG} (C : zC h ad zLX 2 G cX5_kind RX5 wsX5_kind 1 21) {n : Nat} {r : Int32} {s9 : zS} (hQ : zQ h ad zLX G false (.inl r) s9 (some .int)) {v1 : Int32} (s : zS) (hm : m_X5_kind n v1 s = some (r, s9)) : zV h ad zLX 2 G s 0 [(0, .ref (ad 1)), (1, .int v1)] [] := by
  rw [m_X5_kind] at hm
  refine z_aload_n C dX5_kind_0 rfl 0 rfl ?_
  refine z_getr C kX1 vc5 eX5_kind_uX5 0 (by decide) rfl eX5_kind_f9 rfl dX5_kind_1 ?_
  refine z_iload_n C dX5_kind_4 rfl 1 rfl ?_
  obtain ⟨x1, s2, q_s2, hm⟩ := zBd_of hm
  refine z_cSN (vd := false) (host := "TaxEngine") C 2 [.ref (ad 2), .int v1] [] (c_X7_at (zC_I C) (zC_st C) kX2 q_s2) gX5_kind_X7_at_n28 eX5_kind_n28 eX5_kind_tX7_at eX5_kind_iX7_at (by decide +kernel) rfl dX5_kind_5 rfl ⟨Nat.le_of_ble_eq_true rfl, Nat.le_of_ble_eq_true rfl⟩ rfl (Nat.le_of_ble_eq_true rfl) ?_
  exact z_iret0 C hQ (zRt_of hm).1 (zRt_of hm).2 dX5_kind_8
set_option maxRecDepth 100000 in
set_option maxHeartbeats 4000000 in
theorem c_X5_kind {h : zH} {ad : Nat → Nat} (hI : zI ad zLX.length) (hst : h.1.stackTraces = false) {n : Nat} {v1 : Int32} {s s9 : zS} {r : Int32} (hm : m_X5_kind n v1 s = some (r, s9)) : zMR h ad zLX false yX5_kind wsX5_kind 1 21 [.ref (ad 1), .int v1] s (.inl r) s9 :=
  z_start (cc := cX5_kind) (nL := 2) (ret := (some .int)) (own := RX5) (by decide +kernel) rfl rfl hI hst (Nat.le_of_ble_eq_true rfl) (fun G C hQ => w_X5_kind_e C hQ _ hm)
set_option maxRecDepth 100000 in
theorem eX5_second_uX5 : ∀ w ∈ wsX50, w ∈ wsX5_second := by decide +kernel
set_option maxRecDepth 100000 in
theorem eX5_second_f18 : Cond.fieldLink RX5 18 RX5 (TX5 2).2.1 (TX5 2).2.2.1 ∈ wsX5_second := by decide +kernel
set_option maxRecDepth 100000 in
theorem eX5_second_tX7_at : Cond.static yX7_at ∈ wsX5_second := by decide +kernel
set_option maxRecDepth 100000 in
theorem eX5_second_iX7_at : Cond.initialized yX7_at.cls ∈ wsX5_second := by decide +kernel
set_option maxRecDepth 100000 in
theorem eX5_second_n28 : (RX5, 28, yX7_at, "TaxEngine") ∈ zN := by decide +kernel
set_option maxRecDepth 100000 in
set_option maxHeartbeats 4000000 in
theorem w_X5_second_e {h : zH} {ad : Nat → Nat} {G : zG} (C : zC h ad zLX 2 G cX5_second RX5 wsX5_second 1 21) {n : Nat} {r : Int32} {s9 : zS} (hQ : zQ h ad zLX G false (.inl r) s9 (some .int)) {v1 : Int32} (s : zS) (hm : m_X5_second n v1 s = some (r, s9)) : zV h ad zLX 2 G s 0 [(0, .ref (ad 1)), (1, .int v1)] [] := by
  rw [m_X5_second] at hm
  refine z_aload_n C dX5_second_0 rfl 0 rfl ?_
  refine z_getr C kX1 vc5 eX5_second_uX5 2 (by decide) rfl eX5_second_f18 rfl dX5_second_1 ?_
  refine z_iload_n C dX5_second_4 rfl 1 rfl ?_
  obtain ⟨x1, s2, q_s2, hm⟩ := zBd_of hm
  refine z_cSN (vd := false) (host := "TaxEngine") C 2 [.ref (ad 4), .int v1] [] (c_X7_at (zC_I C) (zC_st C) kX4 q_s2) gX5_second_X7_at_n28 eX5_second_n28 eX5_second_tX7_at eX5_second_iX7_at (by decide +kernel) rfl dX5_second_5 rfl ⟨Nat.le_of_ble_eq_true rfl, Nat.le_of_ble_eq_true rfl⟩ rfl (Nat.le_of_ble_eq_true rfl) ?_
  exact z_iret0 C hQ (zRt_of hm).1 (zRt_of hm).2 dX5_second_8
set_option maxRecDepth 100000 in
set_option maxHeartbeats 4000000 in
theorem c_X5_second {h : zH} {ad : Nat → Nat} (hI : zI ad zLX.length) (hst : h.1.stackTraces = false) {n : Nat} {v1 : Int32} {s s9 : zS} {r : Int32} (hm : m_X5_second n v1 s = some (r, s9)) : zMR h ad zLX false yX5_second wsX5_second 1 21 [.ref (ad 1), .int v1] s (.inl r) s9 :=
  z_start (cc := cX5_second) (nL := 2) (ret := (some .int)) (own := RX5) (by decide +kernel) rfl rfl hI hst (Nat.le_of_ble_eq_true rfl) (fun G C hQ => w_X5_second_e C hQ _ hm)
set_option maxRecDepth 100000 in
set_option maxHeartbeats 4000000 in
theorem w_X7_takesFirst_e {h : zH} {ad : Nat → Nat} {G : zG} (C : zC h ad zLX 1 G cX7_takesFirst RX7 wsX7_takesFirst 0 0) {n : Nat} {r : Int32} {s9 : zS} (hQ : zQ h ad zLX G false (.inl r) s9 (some .boolean)) {v0 : Int32} (s : zS) (hm : m_X7_takesFirst n v0 s = some (r, s9)) : zV h ad zLX 1 G s 0 [(0, .int v0)] [] := by
  rw [m_X7_takesFirst] at hm
  refine z_iload_n C dX7_takesFirst_0 rfl 0 rfl ?_
  refine z_if_eq (tgt := 8) C dX7_takesFirst_1 (by decide) (fun c1 => ?_) (fun c1 => ?_)
  · have hm := zIt hm c1
    refine z_iconst (v := (0 : Int32)) C dX7_takesFirst_8 (by decide) ?_
    exact z_zret0 C hQ (zRt_of hm).1 (zRt_of hm).2 (by decide) dX7_takesFirst_9
  · have hm := zIf hm c1
    refine z_iconst (v := (1 : Int32)) C dX7_takesFirst_4 (by decide) ?_
    refine z_goto (tgt := 9) C dX7_takesFirst_5 (by decide) ?_
    exact z_zret0 C hQ (zRt_of hm).1 (zRt_of hm).2 (by decide) dX7_takesFirst_9
set_option maxRecDepth 100000 in
set_option maxHeartbeats 4000000 in
theorem c_X7_takesFirst {h : zH} {ad : Nat → Nat} (hI : zI ad zLX.length) (hst : h.1.stackTraces = false) {n : Nat} {v0 : Int32} {s s9 : zS} {r : Int32} (hm : m_X7_takesFirst n v0 s = some (r, s9)) : zMR h ad zLX false yX7_takesFirst wsX7_takesFirst 0 0 [.int v0] s (.inl r) s9 :=
  z_start (cc := cX7_takesFirst) (nL := 1) (ret := (some .boolean)) (own := RX7) (by decide +kernel) rfl rfl hI hst (Nat.le_of_ble_eq_true rfl) (fun G C hQ => w_X7_takesFirst_e C hQ _ hm)
set_option maxRecDepth 100000 in
set_option maxHeartbeats 4000000 in
theorem w_X7_takesSecond_j26 {h : zH} {ad : Nat → Nat} {G : zG} (C : zC h ad zLX 1 G cX7_takesSecond RX7 wsX7_takesSecond 0 0) {n : Nat} {r : Int32} {s9 : zS} (hQ : zQ h ad zLX G false (.inl r) s9 (some .boolean))  (s : zS) (hm : m_X7_takesSecond_j26 n s = some (r, s9)) : zV h ad zLX 1 G s 26 [] [] := by
  rw [m_X7_takesSecond_j26] at hm
  refine z_iconst (v := (1 : Int32)) C dX7_takesSecond_26 (by decide) ?_
  refine z_goto (tgt := 31) C dX7_takesSecond_27 (by decide) ?_
  exact z_zret0 C hQ (zRt_of hm).1 (zRt_of hm).2 (by decide) dX7_takesSecond_31
set_option maxRecDepth 100000 in
set_option maxHeartbeats 4000000 in
theorem w_X7_takesSecond_e {h : zH} {ad : Nat → Nat} {G : zG} (C : zC h ad zLX 1 G cX7_takesSecond RX7 wsX7_takesSecond 0 0) {n : Nat} {r : Int32} {s9 : zS} (hQ : zQ h ad zLX G false (.inl r) s9 (some .boolean)) {v0 : Int32} (s : zS) (hm : m_X7_takesSecond n v0 s = some (r, s9)) : zV h ad zLX 1 G s 0 [(0, .int v0)] [] := by
  rw [m_X7_takesSecond] at hm
  refine z_iload_n C dX7_takesSecond_0 rfl 0 rfl ?_
  refine z_iconst (v := (1 : Int32)) C dX7_takesSecond_1 (by decide) ?_
  refine z_icmp_eq (tgt := 26) C dX7_takesSecond_2 (by decide) (fun c1 => ?_) (fun c1 => ?_)
  · have hm := zIt hm c1
    exact z_sub [] rfl (w_X7_takesSecond_j26 C hQ  _ hm)
  · have hm := zIf hm c1
    refine z_iload_n C dX7_takesSecond_5 rfl 0 rfl ?_
    refine z_iconst (v := (2 : Int32)) C dX7_takesSecond_6 (by decide) ?_
    refine z_icmp_eq (tgt := 26) C dX7_takesSecond_7 (by decide) (fun c2 => ?_) (fun c2 => ?_)
    · have hm := zIt hm c2
      exact z_sub [] rfl (w_X7_takesSecond_j26 C hQ  _ hm)
    · have hm := zIf hm c2
      refine z_iload_n C dX7_takesSecond_10 rfl 0 rfl ?_
      refine z_iconst (v := (4 : Int32)) C dX7_takesSecond_11 (by decide) ?_
      refine z_icmp_eq (tgt := 26) C dX7_takesSecond_12 (by decide) (fun c3 => ?_) (fun c3 => ?_)
      · have hm := zIt hm c3
        exact z_sub [] rfl (w_X7_takesSecond_j26 C hQ  _ hm)
      · have hm := zIf hm c3
        refine z_iload_n C dX7_takesSecond_15 rfl 0 rfl ?_
        refine z_iconst (v := (5 : Int32)) C dX7_takesSecond_16 (by decide) ?_
        refine z_icmp_eq (tgt := 26) C dX7_takesSecond_17 (by decide) (fun c4 => ?_) (fun c4 => ?_)
        · have hm := zIt hm c4
          exact z_sub [] rfl (w_X7_takesSecond_j26 C hQ  _ hm)
        · have hm := zIf hm c4
          refine z_iload_n C dX7_takesSecond_20 rfl 0 rfl ?_
          refine z_bipush (v := (8 : Int32)) C dX7_takesSecond_21 (by decide) ?_
          refine z_icmp_ne (tgt := 30) C dX7_takesSecond_23 (by decide) (fun c5 => ?_) (fun c5 => ?_)
          · have hm := zIf hm c5
            refine z_iconst (v := (0 : Int32)) C dX7_takesSecond_30 (by decide) ?_
            exact z_zret0 C hQ (zRt_of hm).1 (zRt_of hm).2 (by decide) dX7_takesSecond_31
          · have hm := zIt hm c5
            exact z_sub [] rfl (w_X7_takesSecond_j26 C hQ  _ hm)
set_option maxRecDepth 100000 in
set_option maxHeartbeats 4000000 in
theorem c_X7_takesSecond {h : zH} {ad : Nat → Nat} (hI : zI ad zLX.length) (hst : h.1.stackTraces = false) {n : Nat} {v0 : Int32} {s s9 : zS} {r : Int32} (hm : m_X7_takesSecond n v0 s = some (r, s9)) : zMR h ad zLX false yX7_takesSecond wsX7_takesSecond 0 0 [.int v0] s (.inl r) s9 :=
  z_start (cc := cX7_takesSecond) (nL := 1) (ret := (some .boolean)) (own := RX7) (by decide +kernel) rfl rfl hI hst (Nat.le_of_ble_eq_true rfl) (fun G C hQ => w_X7_takesSecond_e C hQ _ hm)
set_option maxRecDepth 100000 in
theorem eX5_uses_tX7_takesSecond : Cond.static yX7_takesSecond ∈ wsX5_uses := by decide +kernel
set_option maxRecDepth 100000 in
theorem eX5_uses_iX7_takesSecond : Cond.initialized yX7_takesSecond.cls ∈ wsX5_uses := by decide +kernel
set_option maxRecDepth 100000 in
theorem eX5_uses_n46 : (RX5, 46, yX7_takesSecond, "TaxEngine") ∈ zN := by decide +kernel
set_option maxRecDepth 100000 in
theorem eX5_uses_tX7_bit : Cond.static yX7_bit ∈ wsX5_uses := by decide +kernel
set_option maxRecDepth 100000 in
theorem eX5_uses_iX7_bit : Cond.initialized yX7_bit.cls ∈ wsX5_uses := by decide +kernel
set_option maxRecDepth 100000 in
theorem eX5_uses_n43 : (RX5, 43, yX7_bit, "TaxEngine") ∈ zN := by decide +kernel
set_option maxRecDepth 100000 in
theorem eX5_uses_tX7_takesFirst : Cond.static yX7_takesFirst ∈ wsX5_uses := by decide +kernel
set_option maxRecDepth 100000 in
theorem eX5_uses_iX7_takesFirst : Cond.initialized yX7_takesFirst.cls ∈ wsX5_uses := by decide +kernel
set_option maxRecDepth 100000 in
theorem eX5_uses_n36 : (RX5, 36, yX7_takesFirst, "TaxEngine") ∈ zN := by decide +kernel
set_option maxRecDepth 100000 in
set_option maxHeartbeats 4000000 in
theorem w_X5_uses_j25 {h : zH} {ad : Nat → Nat} {G : zG} (C : zC h ad zLX 4 G cX5_uses RX5 wsX5_uses 2 42) {n : Nat} {r : Int32} {s9 : zS} (hQ : zQ h ad zLX G false (.inl r) s9 (some .int)) (v1 : Int32) (v2 : Int32) (t0 : Int32) (s : zS) (hm : m_X5_uses_j25 n v1 v2 t0 s = some (r, s9)) : zV h ad zLX 4 G s 25 [(0, .ref (ad 1)), (1, .int v1), (2, .int v2)] [.int t0] := by
  rw [m_X5_uses_j25] at hm
  refine z_istore_n (y := t0) (lv' := [(3, .int t0), (0, .ref (ad 1)), (1, .int v1), (2, .int v2)]) C dX5_uses_25 rfl (by decide) rfl rfl ?_
  refine z_iload_n C dX5_uses_26 rfl 3 rfl ?_
  obtain ⟨x1, s2, q_s2, hm⟩ := zBd_of hm
  refine z_cSN (vd := false) (host := "TaxEngine") C 1 [.int v2] [] (c_X7_takesSecond (zC_I C) (zC_st C)  q_s2) gX5_uses_X7_takesSecond_n46 eX5_uses_n46 eX5_uses_tX7_takesSecond eX5_uses_iX7_takesSecond (by decide +kernel) rfl dX5_uses_27 rfl ⟨Nat.le_of_ble_eq_true rfl, Nat.le_of_ble_eq_true rfl⟩ rfl (Nat.le_of_ble_eq_true rfl) ?_
  refine z_if_eq (tgt := 46) C dX5_uses_30 (by decide) (fun c3 => ?_) (fun c3 => ?_)
  · have hm := zIt hm c3
    refine z_iload_n C dX5_uses_46 rfl 0 rfl ?_
    exact z_iret0 C hQ (zRt_of hm).1 (zRt_of hm).2 dX5_uses_47
  · have hm := zIf hm c3
    refine z_iload_n C dX5_uses_33 rfl 0 rfl ?_
    refine z_aload_n C dX5_uses_34 rfl 1 rfl ?_
    refine z_iload_n C dX5_uses_35 rfl 2 rfl ?_
    obtain ⟨x4, s5, q_s5, hm⟩ := zBd_of hm
    refine z_cV (vd := false) (Cn := RX5) (k := 1) C 1 [.int v1] [.int t0] (c_X5_second (zC_I C) (zC_st C)  q_s5) gX5_uses_X5_second (by decide +kernel) kX1 vc5 rfl rfl dX5_uses_36 rfl ⟨Nat.le_of_ble_eq_true rfl, Nat.le_of_ble_eq_true rfl⟩ rfl (Nat.le_of_ble_eq_true rfl) ?_
    obtain ⟨x6, s7, q_s7, hm⟩ := zBd_of hm
    refine z_cSN (vd := false) (host := "TaxEngine") C 1 [.int x4] [.int t0] (c_X7_bit (zC_I C) (zC_st C)  q_s7) gX5_uses_X7_bit_n43 eX5_uses_n43 eX5_uses_tX7_bit eX5_uses_iX7_bit (by decide +kernel) rfl dX5_uses_39 rfl ⟨Nat.le_of_ble_eq_true rfl, Nat.le_of_ble_eq_true rfl⟩ rfl (Nat.le_of_ble_eq_true rfl) ?_
    refine z_ior C dX5_uses_42 ?_
    refine z_goto (tgt := 47) C dX5_uses_43 (by decide) ?_
    exact z_iret0 C hQ (zRt_of hm).1 (zRt_of hm).2 dX5_uses_47
set_option maxRecDepth 100000 in
set_option maxHeartbeats 4000000 in
theorem w_X5_uses_e {h : zH} {ad : Nat → Nat} {G : zG} (C : zC h ad zLX 4 G cX5_uses RX5 wsX5_uses 2 42) {n : Nat} {r : Int32} {s9 : zS} (hQ : zQ h ad zLX G false (.inl r) s9 (some .int)) {v1 : Int32} (s : zS) (hm : m_X5_uses n v1 s = some (r, s9)) : zV h ad zLX 4 G s 0 [(0, .ref (ad 1)), (1, .int v1)] [] := by
  rw [m_X5_uses] at hm
  refine z_aload_n C dX5_uses_0 rfl 0 rfl ?_
  refine z_iload_n C dX5_uses_1 rfl 1 rfl ?_
  obtain ⟨x8, s9, q_s9, hm⟩ := zBd_of hm
  refine z_cV (vd := false) (Cn := RX5) (k := 1) C 1 [.int v1] [] (c_X5_kind (zC_I C) (zC_st C)  q_s9) gX5_uses_X5_kind (by decide +kernel) kX1 vc5 rfl rfl dX5_uses_2 rfl ⟨Nat.le_of_ble_eq_true rfl, Nat.le_of_ble_eq_true rfl⟩ rfl (Nat.le_of_ble_eq_true rfl) ?_
  refine z_istore_n (y := x8) (lv' := [(2, .int x8), (0, .ref (ad 1)), (1, .int v1)]) C dX5_uses_5 rfl (by decide) rfl rfl ?_
  refine z_iload_n C dX5_uses_6 rfl 0 rfl ?_
  obtain ⟨x10, s11, q_s11, hm⟩ := zBd_of hm
  refine z_cSN (vd := false) (host := "TaxEngine") C 1 [.int x8] [] (c_X7_takesFirst (zC_I C) (zC_st C)  q_s11) gX5_uses_X7_takesFirst_n36 eX5_uses_n36 eX5_uses_tX7_takesFirst eX5_uses_iX7_takesFirst (by decide +kernel) rfl dX5_uses_7 rfl ⟨Nat.le_of_ble_eq_true rfl, Nat.le_of_ble_eq_true rfl⟩ rfl (Nat.le_of_ble_eq_true rfl) ?_
  refine z_if_eq (tgt := 24) C dX5_uses_10 (by decide) (fun c12 => ?_) (fun c12 => ?_)
  · have hm := zIt hm c12
    refine z_iconst (v := (0 : Int32)) C dX5_uses_24 (by decide) ?_
    exact z_sub [1, 2, 0] rfl (w_X5_uses_j25 C hQ  _ _ _ _ hm)
  · have hm := zIf hm c12
    refine z_aload_n C dX5_uses_13 rfl 1 rfl ?_
    refine z_iload_n C dX5_uses_14 rfl 2 rfl ?_
    obtain ⟨x13, s14, q_s14, hm⟩ := zBd_of hm
    refine z_cV (vd := false) (Cn := RX5) (k := 1) C 1 [.int v1] [] (c_X5_first (zC_I C) (zC_st C)  q_s14) gX5_uses_X5_first (by decide +kernel) kX1 vc5 rfl rfl dX5_uses_15 rfl ⟨Nat.le_of_ble_eq_true rfl, Nat.le_of_ble_eq_true rfl⟩ rfl (Nat.le_of_ble_eq_true rfl) ?_
    obtain ⟨x15, s16, q_s16, hm⟩ := zBd_of hm
    refine z_cSN (vd := false) (host := "TaxEngine") C 1 [.int x13] [] (c_X7_bit (zC_I C) (zC_st C)  q_s16) gX5_uses_X7_bit_n43 eX5_uses_n43 eX5_uses_tX7_bit eX5_uses_iX7_bit (by decide +kernel) rfl dX5_uses_18 rfl ⟨Nat.le_of_ble_eq_true rfl, Nat.le_of_ble_eq_true rfl⟩ rfl (Nat.le_of_ble_eq_true rfl) ?_
    refine z_goto (tgt := 25) C dX5_uses_21 (by decide) ?_
    exact z_sub [1, 2, 0] rfl (w_X5_uses_j25 C hQ  _ _ _ _ hm)
set_option maxRecDepth 100000 in
set_option maxHeartbeats 4000000 in
theorem c_X5_uses {h : zH} {ad : Nat → Nat} (hI : zI ad zLX.length) (hst : h.1.stackTraces = false) {n : Nat} {v1 : Int32} {s s9 : zS} {r : Int32} (hm : m_X5_uses n v1 s = some (r, s9)) : zMR h ad zLX false yX5_uses wsX5_uses 2 42 [.ref (ad 1), .int v1] s (.inl r) s9 :=
  z_start (cc := cX5_uses) (nL := 4) (ret := (some .int)) (own := RX5) (by decide +kernel) rfl rfl hI hst (Nat.le_of_ble_eq_true rfl) (fun G C hQ => w_X5_uses_e C hQ _ hm)
set_option maxRecDepth 100000 in
theorem eX5_set_uX5 : ∀ w ∈ wsX50, w ∈ wsX5_set := by decide +kernel
set_option maxRecDepth 100000 in
theorem eX5_set_f9 : Cond.fieldLink RX5 9 RX5 (TX5 0).2.1 (TX5 0).2.2.1 ∈ wsX5_set := by decide +kernel
set_option maxRecDepth 100000 in
theorem eX5_set_tX7_put : Cond.static yX7_put ∈ wsX5_set := by decide +kernel
set_option maxRecDepth 100000 in
theorem eX5_set_iX7_put : Cond.initialized yX7_put.cls ∈ wsX5_set := by decide +kernel
set_option maxRecDepth 100000 in
theorem eX5_set_n24 : (RX5, 24, yX7_put, "TaxEngine") ∈ zN := by decide +kernel
set_option maxRecDepth 100000 in
theorem eX5_set_f15 : Cond.fieldLink RX5 15 RX5 (TX5 1).2.1 (TX5 1).2.2.1 ∈ wsX5_set := by decide +kernel
set_option maxRecDepth 100000 in
theorem eX5_set_f18 : Cond.fieldLink RX5 18 RX5 (TX5 2).2.1 (TX5 2).2.2.1 ∈ wsX5_set := by decide +kernel
set_option maxRecDepth 100000 in
set_option maxHeartbeats 4000000 in
theorem w_X5_set_e {h : zH} {ad : Nat → Nat} {G : zG} (C : zC h ad zLX 5 G cX5_set RX5 wsX5_set 1 22) {n : Nat} {r : Int32} {s9 : zS} (hQ : zQ h ad zLX G true (.inl r) s9 none) {v1 : Int32} {v2 : Int32} {v3 : Int32} {v4 : Int32} (s : zS) (hm : m_X5_set n v1 v2 v3 v4 s = some (r, s9)) : zV h ad zLX 5 G s 0 [(0, .ref (ad 1)), (1, .int v1), (2, .int v2), (3, .int v3), (4, .int v4)] [] := by
  rw [m_X5_set] at hm
  refine z_aload_n C dX5_set_0 rfl 0 rfl ?_
  refine z_getr C kX1 vc5 eX5_set_uX5 0 (by decide) rfl eX5_set_f9 rfl dX5_set_1 ?_
  refine z_iload_n C dX5_set_4 rfl 1 rfl ?_
  refine z_iload_n C dX5_set_5 rfl 2 rfl ?_
  obtain ⟨x1, s2, q_s2, hm⟩ := zBd_of hm
  refine z_cSN (vd := true) (host := "TaxEngine") C 3 [.ref (ad 2), .int v1, .int v2] [] (c_X7_put (zC_I C) (zC_st C) kX2 q_s2) gX5_set_X7_put_n24 eX5_set_n24 eX5_set_tX7_put eX5_set_iX7_put (by decide +kernel) rfl dX5_set_6 rfl ⟨Nat.le_of_ble_eq_true rfl, Nat.le_of_ble_eq_true rfl⟩ rfl (Nat.le_of_ble_eq_true rfl) ?_
  refine z_aload_n C dX5_set_9 rfl 0 rfl ?_
  refine z_getr C kX1 vc5 eX5_set_uX5 1 (by decide) rfl eX5_set_f15 rfl dX5_set_10 ?_
  refine z_iload_n C dX5_set_13 rfl 1 rfl ?_
  refine z_iload_n C dX5_set_14 rfl 3 rfl ?_
  obtain ⟨x3, s4, q_s4, hm⟩ := zBd_of hm
  refine z_cSN (vd := true) (host := "TaxEngine") C 3 [.ref (ad 3), .int v1, .int v3] [] (c_X7_put (zC_I C) (zC_st C) kX3 q_s4) gX5_set_X7_put_n24 eX5_set_n24 eX5_set_tX7_put eX5_set_iX7_put (by decide +kernel) rfl dX5_set_15 rfl ⟨Nat.le_of_ble_eq_true rfl, Nat.le_of_ble_eq_true rfl⟩ rfl (Nat.le_of_ble_eq_true rfl) ?_
  refine z_aload_n C dX5_set_18 rfl 0 rfl ?_
  refine z_getr C kX1 vc5 eX5_set_uX5 2 (by decide) rfl eX5_set_f18 rfl dX5_set_19 ?_
  refine z_iload_n C dX5_set_22 rfl 1 rfl ?_
  refine z_iload C dX5_set_23 4 rfl ?_
  obtain ⟨x5, s6, q_s6, hm⟩ := zBd_of hm
  refine z_cSN (vd := true) (host := "TaxEngine") C 3 [.ref (ad 4), .int v1, .int v4] [] (c_X7_put (zC_I C) (zC_st C) kX4 q_s6) gX5_set_X7_put_n24 eX5_set_n24 eX5_set_tX7_put eX5_set_iX7_put (by decide +kernel) rfl dX5_set_25 rfl ⟨Nat.le_of_ble_eq_true rfl, Nat.le_of_ble_eq_true rfl⟩ rfl (Nat.le_of_ble_eq_true rfl) ?_
  exact z_vret0 C hQ (zRt_of hm).1 (zRt_of hm).2 dX5_set_28
set_option maxRecDepth 100000 in
set_option maxHeartbeats 4000000 in
theorem c_X5_set {h : zH} {ad : Nat → Nat} (hI : zI ad zLX.length) (hst : h.1.stackTraces = false) {n : Nat} {v1 : Int32} {v2 : Int32} {v3 : Int32} {v4 : Int32} {s s9 : zS} {r : Int32} (hm : m_X5_set n v1 v2 v3 v4 s = some (r, s9)) : zMR h ad zLX true yX5_set wsX5_set 1 22 [.ref (ad 1), .int v1, .int v2, .int v3, .int v4] s (.inl r) s9 :=
  z_start (cc := cX5_set) (nL := 5) (ret := none) (own := RX5) (by decide +kernel) rfl rfl hI hst (Nat.le_of_ble_eq_true rfl) (fun G C hQ => w_X5_set_e C hQ _ hm)
set_option maxRecDepth 100000 in
theorem eX5_given_uX5 : ∀ w ∈ wsX50, w ∈ wsX5_given := by decide +kernel
set_option maxRecDepth 100000 in
theorem eX5_given_f21 : Cond.fieldLink RX5 21 RX5 (TX5 3).2.1 (TX5 3).2.2.1 ∈ wsX5_given := by decide +kernel
set_option maxRecDepth 100000 in
theorem eX5_given_tX7_at : Cond.static yX7_at ∈ wsX5_given := by decide +kernel
set_option maxRecDepth 100000 in
theorem eX5_given_iX7_at : Cond.initialized yX7_at.cls ∈ wsX5_given := by decide +kernel
set_option maxRecDepth 100000 in
theorem eX5_given_n28 : (RX5, 28, yX7_at, "TaxEngine") ∈ zN := by decide +kernel
set_option maxRecDepth 100000 in
set_option maxHeartbeats 4000000 in
theorem w_X5_given_e {h : zH} {ad : Nat → Nat} {G : zG} (C : zC h ad zLX 2 G cX5_given RX5 wsX5_given 1 21) {n : Nat} {r : Int32} {s9 : zS} (hQ : zQ h ad zLX G false (.inl r) s9 (some .int)) {v1 : Int32} (s : zS) (hm : m_X5_given n v1 s = some (r, s9)) : zV h ad zLX 2 G s 0 [(0, .ref (ad 1)), (1, .int v1)] [] := by
  rw [m_X5_given] at hm
  refine z_aload_n C dX5_given_0 rfl 0 rfl ?_
  refine z_getr C kX1 vc5 eX5_given_uX5 3 (by decide) rfl eX5_given_f21 rfl dX5_given_1 ?_
  refine z_iload_n C dX5_given_4 rfl 1 rfl ?_
  obtain ⟨x1, s2, q_s2, hm⟩ := zBd_of hm
  refine z_cSN (vd := false) (host := "TaxEngine") C 2 [.ref (ad 5), .int v1] [] (c_X7_at (zC_I C) (zC_st C) kX5 q_s2) gX5_given_X7_at_n28 eX5_given_n28 eX5_given_tX7_at eX5_given_iX7_at (by decide +kernel) rfl dX5_given_5 rfl ⟨Nat.le_of_ble_eq_true rfl, Nat.le_of_ble_eq_true rfl⟩ rfl (Nat.le_of_ble_eq_true rfl) ?_
  exact z_iret0 C hQ (zRt_of hm).1 (zRt_of hm).2 dX5_given_8
set_option maxRecDepth 100000 in
set_option maxHeartbeats 4000000 in
theorem c_X5_given {h : zH} {ad : Nat → Nat} (hI : zI ad zLX.length) (hst : h.1.stackTraces = false) {n : Nat} {v1 : Int32} {s s9 : zS} {r : Int32} (hm : m_X5_given n v1 s = some (r, s9)) : zMR h ad zLX false yX5_given wsX5_given 1 21 [.ref (ad 1), .int v1] s (.inl r) s9 :=
  z_start (cc := cX5_given) (nL := 2) (ret := (some .int)) (own := RX5) (by decide +kernel) rfl rfl hI hst (Nat.le_of_ble_eq_true rfl) (fun G C hQ => w_X5_given_e C hQ _ hm)
set_option maxRecDepth 100000 in
theorem eX5_give_uX5 : ∀ w ∈ wsX50, w ∈ wsX5_give := by decide +kernel
set_option maxRecDepth 100000 in
theorem eX5_give_f21 : Cond.fieldLink RX5 21 RX5 (TX5 3).2.1 (TX5 3).2.2.1 ∈ wsX5_give := by decide +kernel
set_option maxRecDepth 100000 in
theorem eX5_give_tX7_put : Cond.static yX7_put ∈ wsX5_give := by decide +kernel
set_option maxRecDepth 100000 in
theorem eX5_give_iX7_put : Cond.initialized yX7_put.cls ∈ wsX5_give := by decide +kernel
set_option maxRecDepth 100000 in
theorem eX5_give_n24 : (RX5, 24, yX7_put, "TaxEngine") ∈ zN := by decide +kernel
set_option maxRecDepth 100000 in
set_option maxHeartbeats 4000000 in
theorem w_X5_give_e {h : zH} {ad : Nat → Nat} {G : zG} (C : zC h ad zLX 3 G cX5_give RX5 wsX5_give 1 22) {n : Nat} {r : Int32} {s9 : zS} (hQ : zQ h ad zLX G true (.inl r) s9 none) {v1 : Int32} {v2 : Int32} (s : zS) (hm : m_X5_give n v1 v2 s = some (r, s9)) : zV h ad zLX 3 G s 0 [(0, .ref (ad 1)), (1, .int v1), (2, .int v2)] [] := by
  rw [m_X5_give] at hm
  refine z_aload_n C dX5_give_0 rfl 0 rfl ?_
  refine z_getr C kX1 vc5 eX5_give_uX5 3 (by decide) rfl eX5_give_f21 rfl dX5_give_1 ?_
  refine z_iload_n C dX5_give_4 rfl 1 rfl ?_
  refine z_iload_n C dX5_give_5 rfl 2 rfl ?_
  obtain ⟨x1, s2, q_s2, hm⟩ := zBd_of hm
  refine z_cSN (vd := true) (host := "TaxEngine") C 3 [.ref (ad 5), .int v1, .int v2] [] (c_X7_put (zC_I C) (zC_st C) kX5 q_s2) gX5_give_X7_put_n24 eX5_give_n24 eX5_give_tX7_put eX5_give_iX7_put (by decide +kernel) rfl dX5_give_6 rfl ⟨Nat.le_of_ble_eq_true rfl, Nat.le_of_ble_eq_true rfl⟩ rfl (Nat.le_of_ble_eq_true rfl) ?_
  exact z_vret0 C hQ (zRt_of hm).1 (zRt_of hm).2 dX5_give_9
set_option maxRecDepth 100000 in
set_option maxHeartbeats 4000000 in
theorem c_X5_give {h : zH} {ad : Nat → Nat} (hI : zI ad zLX.length) (hst : h.1.stackTraces = false) {n : Nat} {v1 : Int32} {v2 : Int32} {s s9 : zS} {r : Int32} (hm : m_X5_give n v1 v2 s = some (r, s9)) : zMR h ad zLX true yX5_give wsX5_give 1 22 [.ref (ad 1), .int v1, .int v2] s (.inl r) s9 :=
  z_start (cc := cX5_give) (nL := 3) (ret := none) (own := RX5) (by decide +kernel) rfl rfl hI hst (Nat.le_of_ble_eq_true rfl) (fun G C hQ => w_X5_give_e C hQ _ hm)
set_option maxRecDepth 100000 in
set_option maxHeartbeats 4000000 in
theorem w_X7_isWithin_e {h : zH} {ad : Nat → Nat} {G : zG} (C : zC h ad zLX 3 G cX7_isWithin RX7 wsX7_isWithin 0 0) {n : Nat} {r : Int32} {s9 : zS} (hQ : zQ h ad zLX G false (.inl r) s9 (some .boolean)) {v0 : Int32} {v1 : Int32} {v2 : Int32} (s : zS) (hm : m_X7_isWithin n v0 v1 v2 s = some (r, s9)) : zV h ad zLX 3 G s 0 [(0, .int v0), (1, .int v1), (2, .int v2)] [] := by
  rw [m_X7_isWithin] at hm
  refine z_iload_n C dX7_isWithin_0 rfl 0 rfl ?_
  refine z_iload_n C dX7_isWithin_1 rfl 1 rfl ?_
  refine z_icmp_lt (tgt := 14) C dX7_isWithin_2 (by decide) (fun c1 => ?_) (fun c1 => ?_)
  · have hm := zIt hm c1
    refine z_iconst (v := (0 : Int32)) C dX7_isWithin_14 (by decide) ?_
    exact z_zret0 C hQ (zRt_of hm).1 (zRt_of hm).2 (by decide) dX7_isWithin_15
  · have hm := zIf hm c1
    refine z_iload_n C dX7_isWithin_5 rfl 0 rfl ?_
    refine z_iload_n C dX7_isWithin_6 rfl 2 rfl ?_
    refine z_icmp_gt (tgt := 14) C dX7_isWithin_7 (by decide) (fun c2 => ?_) (fun c2 => ?_)
    · have hm := zIt hm c2
      refine z_iconst (v := (0 : Int32)) C dX7_isWithin_14 (by decide) ?_
      exact z_zret0 C hQ (zRt_of hm).1 (zRt_of hm).2 (by decide) dX7_isWithin_15
    · have hm := zIf hm c2
      refine z_iconst (v := (1 : Int32)) C dX7_isWithin_10 (by decide) ?_
      refine z_goto (tgt := 15) C dX7_isWithin_11 (by decide) ?_
      exact z_zret0 C hQ (zRt_of hm).1 (zRt_of hm).2 (by decide) dX7_isWithin_15
set_option maxRecDepth 100000 in
set_option maxHeartbeats 4000000 in
theorem c_X7_isWithin {h : zH} {ad : Nat → Nat} (hI : zI ad zLX.length) (hst : h.1.stackTraces = false) {n : Nat} {v0 : Int32} {v1 : Int32} {v2 : Int32} {s s9 : zS} {r : Int32} (hm : m_X7_isWithin n v0 v1 v2 s = some (r, s9)) : zMR h ad zLX false yX7_isWithin wsX7_isWithin 0 0 [.int v0, .int v1, .int v2] s (.inl r) s9 :=
  z_start (cc := cX7_isWithin) (nL := 3) (ret := (some .boolean)) (own := RX7) (by decide +kernel) rfl rfl hI hst (Nat.le_of_ble_eq_true rfl) (fun G C hQ => w_X7_isWithin_e C hQ _ hm)
