set_option maxRecDepth 100000 in
theorem eX8_value_uX8 : ∀ w ∈ wsX80, w ∈ wsX8_value := by decide +kernel
set_option maxRecDepth 100000 in
theorem eX8_value_f65 : Cond.fieldLink RX8 65 RX8 (TX8 23).2.1 (TX8 23).2.2.1 ∈ wsX8_value := by decide +kernel
set_option maxRecDepth 100000 in
theorem eX8_value_f40 : Cond.fieldLink RX8 40 RX8 (TX8 14).2.1 (TX8 14).2.2.1 ∈ wsX8_value := by decide +kernel
set_option maxRecDepth 100000 in
set_option maxHeartbeats 4000000 in
theorem w_X8_value_j13 {h : zH} {ad : Nat → Nat} {G : zG} (C : zC h ad zLM 2 G cX8_value RX8 wsX8_value 6 148) {n : Nat} {r : Int32} {s9 : zS} (hQ : zQ h ad zLM G false (.inl r) s9 (some .int)) (v1 : Int32) (t1 : Int32) (s : zS) (hm : m_X8_value_j13 n v1 t1 s = some (r, s9)) : zV h ad zLM 2 G s 13 [(0, .ref (ad 0)), (1, .int v1)] [.int t1, .ref (ad 0)] := by
  rw [m_X8_value_j13] at hm
  obtain ⟨s1, e_s1, hm⟩ := zLt_of hm
  refine z_put C kM0 vc8 eX8_value_uX8 tyX8_ok nmX8 23 (by decide) rfl eX8_value_f65 rfl rfl rfl e_s1 dX8_value_13 ?_
  refine z_aload_n C dX8_value_16 rfl 0 rfl ?_
  refine z_get C kM0 vc8 eX8_value_uX8 23 (by decide) rfl eX8_value_f65 rfl dX8_value_17 ?_
  refine z_if_le (tgt := 25) C dX8_value_20 (by decide) (fun c2 => ?_) (fun c2 => ?_)
  · have hm := zIt hm c2
    refine z_aload_n C dX8_value_25 rfl 0 rfl ?_
    refine z_iconst (v := (-1 : Int32)) C dX8_value_26 (by decide) ?_
    refine z_iconst (v := (0 : Int32)) C dX8_value_27 (by decide) ?_
    obtain ⟨x3, s4, q_s4, hm⟩ := zBd_of hm
    refine z_cV (vd := true) (Cn := RX8) (k := 0) C 2 [.int (-1 : Int32), .int (0 : Int32)] [] (c_X8_solves (zC_I C) (zC_st C)  q_s4) gX8_value_X8_solves (by decide +kernel) kM0 vc8 rfl rfl dX8_value_28 rfl ⟨Nat.le_of_ble_eq_true rfl, Nat.le_of_ble_eq_true rfl⟩ rfl (Nat.le_of_ble_eq_true rfl) ?_
    refine z_aload_n C dX8_value_31 rfl 0 rfl ?_
    refine z_getr C kM0 vc8 eX8_value_uX8 14 (by decide) rfl eX8_value_f40 rfl dX8_value_32 ?_
    refine z_iload_n C dX8_value_35 rfl 1 rfl ?_
    obtain ⟨x5, i_x5, e_x5, hm⟩ := zRd_of hm
    refine z_iald C kM11 i_x5 e_x5 dX8_value_36 ?_
    exact z_iret0 C hQ (zRt_of hm).1 (zRt_of hm).2 dX8_value_37
  · have hm := zIf hm c2
    refine z_iconst (v := (0 : Int32)) C dX8_value_23 (by decide) ?_
    exact z_iret0 C hQ (zRt_of hm).1 (zRt_of hm).2 dX8_value_24
set_option maxRecDepth 100000 in
set_option maxHeartbeats 4000000 in
theorem w_X8_value_e {h : zH} {ad : Nat → Nat} {G : zG} (C : zC h ad zLM 2 G cX8_value RX8 wsX8_value 6 148) {n : Nat} {r : Int32} {s9 : zS} (hQ : zQ h ad zLM G false (.inl r) s9 (some .int)) {v1 : Int32} (s : zS) (hm : m_X8_value n v1 s = some (r, s9)) : zV h ad zLM 2 G s 0 [(0, .ref (ad 0)), (1, .int v1)] [] := by
  rw [m_X8_value] at hm
  refine z_aload_n C dX8_value_0 rfl 0 rfl ?_
  refine z_iload_n C dX8_value_1 rfl 1 rfl ?_
  obtain ⟨x6, s7, q_s7, hm⟩ := zBd_of hm
  refine z_cS (vd := false) C 1 [.int v1] [.ref (ad 0)] (c_X8_isLine (zC_I C) (zC_st C)  q_s7) gX8_value_X8_isLine (by decide +kernel) rfl dX8_value_2 rfl ⟨Nat.le_of_ble_eq_true rfl, Nat.le_of_ble_eq_true rfl⟩ rfl (Nat.le_of_ble_eq_true rfl) ?_
  refine z_if_eq (tgt := 12) C dX8_value_5 (by decide) (fun c8 => ?_) (fun c8 => ?_)
  · have hm := zIt hm c8
    refine z_iconst (v := (1 : Int32)) C dX8_value_12 (by decide) ?_
    exact z_sub [0, 1] rfl (w_X8_value_j13 C hQ  _ _ _ hm)
  · have hm := zIf hm c8
    refine z_iconst (v := (0 : Int32)) C dX8_value_8 (by decide) ?_
    refine z_goto (tgt := 13) C dX8_value_9 (by decide) ?_
    exact z_sub [0, 1] rfl (w_X8_value_j13 C hQ  _ _ _ hm)
set_option maxRecDepth 100000 in
set_option maxHeartbeats 4000000 in
theorem c_X8_value {h : zH} {ad : Nat → Nat} (hI : zI ad zLM.length) (hst : h.1.stackTraces = false) {n : Nat} {v1 : Int32} {s s9 : zS} {r : Int32} (hm : m_X8_value n v1 s = some (r, s9)) : zMR h ad zLM false yX8_value wsX8_value 6 148 [.ref (ad 0), .int v1] s (.inl r) s9 :=
  z_start (cc := cX8_value) (nL := 2) (ret := (some .int)) (own := RX8) (by decide +kernel) rfl rfl hI hst (Nat.le_of_ble_eq_true rfl) (fun G C hQ => w_X8_value_e C hQ _ hm)
set_option maxRecDepth 100000 in
theorem eX8_boundFor_uX8 : ∀ w ∈ wsX80, w ∈ wsX8_boundFor := by decide +kernel
set_option maxRecDepth 100000 in
theorem eX8_boundFor_f65 : Cond.fieldLink RX8 65 RX8 (TX8 23).2.1 (TX8 23).2.2.1 ∈ wsX8_boundFor := by decide +kernel
set_option maxRecDepth 100000 in
theorem eX8_boundFor_f40 : Cond.fieldLink RX8 40 RX8 (TX8 14).2.1 (TX8 14).2.2.1 ∈ wsX8_boundFor := by decide +kernel
set_option maxRecDepth 100000 in
theorem eX8_boundFor_f16 : Cond.fieldLink RX8 16 RX8 (TX8 2).2.1 (TX8 2).2.2.1 ∈ wsX8_boundFor := by decide +kernel
set_option maxRecDepth 100000 in
theorem eX8_boundFor_c109 : Cond.constant RX8 109 (1000000000 : Int32) ∈ wsX8_boundFor := by decide +kernel
set_option maxRecDepth 100000 in
theorem eX8_boundFor_f7 : Cond.fieldLink RX8 7 RX8 (TX8 0).2.1 (TX8 0).2.2.1 ∈ wsX8_boundFor := by decide +kernel
set_option maxRecDepth 100000 in
set_option maxHeartbeats 4000000 in
theorem w_X8_boundFor_j42 {h : zH} {ad : Nat → Nat} {G : zG} (C : zC h ad zLM 3 G cX8_boundFor RX8 wsX8_boundFor 6 148) {n : Nat} {r : Int32} {s9 : zS} (hQ : zQ h ad zLM G false (.inl r) s9 (some .int)) (v1 : Int32) (v2 : Int32) (t1 : Int32) (s : zS) (hm : m_X8_boundFor_j42 n v1 v2 t1 s = some (r, s9)) : zV h ad zLM 3 G s 42 [(0, .ref (ad 0)), (1, .int v1), (2, .int v2)] [.int t1, .ref (ad 0)] := by
  rw [m_X8_boundFor_j42] at hm
  obtain ⟨s1, e_s1, hm⟩ := zLt_of hm
  refine z_put C kM0 vc8 eX8_boundFor_uX8 tyX8_ok nmX8 23 (by decide) rfl eX8_boundFor_f65 rfl rfl rfl e_s1 dX8_boundFor_42 ?_
  refine z_aload_n C dX8_boundFor_45 rfl 0 rfl ?_
  refine z_get C kM0 vc8 eX8_boundFor_uX8 23 (by decide) rfl eX8_boundFor_f65 rfl dX8_boundFor_46 ?_
  refine z_if_le (tgt := 54) C dX8_boundFor_49 (by decide) (fun c2 => ?_) (fun c2 => ?_)
  · have hm := zIt hm c2
    refine z_aload_n C dX8_boundFor_54 rfl 0 rfl ?_
    refine z_iload_n C dX8_boundFor_55 rfl 1 rfl ?_
    refine z_iload_n C dX8_boundFor_56 rfl 2 rfl ?_
    obtain ⟨x3, s4, q_s4, hm⟩ := zBd_of hm
    refine z_cV (vd := true) (Cn := RX8) (k := 0) C 2 [.int v1, .int v2] [] (c_X8_solves (zC_I C) (zC_st C)  q_s4) gX8_boundFor_X8_solves (by decide +kernel) kM0 vc8 rfl rfl dX8_boundFor_57 rfl ⟨Nat.le_of_ble_eq_true rfl, Nat.le_of_ble_eq_true rfl⟩ rfl (Nat.le_of_ble_eq_true rfl) ?_
    refine z_aload_n C dX8_boundFor_60 rfl 0 rfl ?_
    refine z_getr C kM0 vc8 eX8_boundFor_uX8 14 (by decide) rfl eX8_boundFor_f40 rfl dX8_boundFor_61 ?_
    refine z_aload_n C dX8_boundFor_64 rfl 0 rfl ?_
    refine z_getr C kM0 vc8 eX8_boundFor_uX8 2 (by decide) rfl eX8_boundFor_f16 rfl dX8_boundFor_65 ?_
    refine z_iload_n C dX8_boundFor_68 rfl 1 rfl ?_
    obtain ⟨x5, i_x5, e_x5, hm⟩ := zRd_of hm
    refine z_iald C kM3 i_x5 e_x5 dX8_boundFor_69 ?_
    obtain ⟨x6, i_x6, e_x6, hm⟩ := zRd_of hm
    refine z_iald C kM11 i_x6 e_x6 dX8_boundFor_70 ?_
    exact z_iret0 C hQ (zRt_of hm).1 (zRt_of hm).2 dX8_boundFor_71
  · have hm := zIf hm c2
    refine z_iconst (v := (0 : Int32)) C dX8_boundFor_52 (by decide) ?_
    exact z_iret0 C hQ (zRt_of hm).1 (zRt_of hm).2 dX8_boundFor_53
set_option maxRecDepth 100000 in
set_option maxHeartbeats 4000000 in
theorem w_X8_boundFor_e {h : zH} {ad : Nat → Nat} {G : zG} (C : zC h ad zLM 3 G cX8_boundFor RX8 wsX8_boundFor 6 148) {n : Nat} {r : Int32} {s9 : zS} (hQ : zQ h ad zLM G false (.inl r) s9 (some .int)) {v1 : Int32} {v2 : Int32} (s : zS) (hm : m_X8_boundFor n v1 v2 s = some (r, s9)) : zV h ad zLM 3 G s 0 [(0, .ref (ad 0)), (1, .int v1), (2, .int v2)] [] := by
  rw [m_X8_boundFor] at hm
  refine z_aload_n C dX8_boundFor_0 rfl 0 rfl ?_
  refine z_iload_n C dX8_boundFor_1 rfl 1 rfl ?_
  obtain ⟨x7, s8, q_s8, hm⟩ := zBd_of hm
  refine z_cS (vd := false) C 1 [.int v1] [.ref (ad 0)] (c_X8_isLine (zC_I C) (zC_st C)  q_s8) gX8_boundFor_X8_isLine (by decide +kernel) rfl dX8_boundFor_2 rfl ⟨Nat.le_of_ble_eq_true rfl, Nat.le_of_ble_eq_true rfl⟩ rfl (Nat.le_of_ble_eq_true rfl) ?_
  refine z_if_ne (tgt := 12) C dX8_boundFor_5 (by decide) (fun c9 => ?_) (fun c9 => ?_)
  · have hm := zIf hm c9
    refine z_iload_n C dX8_boundFor_12 rfl 2 rfl ?_
    refine z_iconst (v := (0 : Int32)) C dX8_boundFor_13 (by decide) ?_
    refine z_ldc (v := (1000000000 : Int32)) C eX8_boundFor_c109 dX8_boundFor_14 ?_
    obtain ⟨x10, s11, q_s11, hm⟩ := zBd_of hm
    refine z_cS (vd := false) C 3 [.int v2, .int (0 : Int32), .int (1000000000 : Int32)] [.ref (ad 0)] (c_X8_isIn (zC_I C) (zC_st C)  q_s11) gX8_boundFor_X8_isIn (by decide +kernel) rfl dX8_boundFor_16 rfl ⟨Nat.le_of_ble_eq_true rfl, Nat.le_of_ble_eq_true rfl⟩ rfl (Nat.le_of_ble_eq_true rfl) ?_
    refine z_if_ne (tgt := 26) C dX8_boundFor_19 (by decide) (fun c12 => ?_) (fun c12 => ?_)
    · have hm := zIf hm c12
      refine z_aload_n C dX8_boundFor_26 rfl 0 rfl ?_
      refine z_getr C kM0 vc8 eX8_boundFor_uX8 0 (by decide) rfl eX8_boundFor_f7 rfl dX8_boundFor_27 ?_
      refine z_iload_n C dX8_boundFor_30 rfl 1 rfl ?_
      obtain ⟨x13, i_x13, e_x13, hm⟩ := zRd_of hm
      refine z_iald C kM1 i_x13 e_x13 dX8_boundFor_31 ?_
      refine z_bipush (v := (8 : Int32)) C dX8_boundFor_32 (by decide) ?_
      refine z_icmp_eq (tgt := 41) C dX8_boundFor_34 (by decide) (fun c14 => ?_) (fun c14 => ?_)
      · have hm := zIt hm c14
        refine z_iconst (v := (0 : Int32)) C dX8_boundFor_41 (by decide) ?_
        exact z_sub [0, 1, 2] rfl (w_X8_boundFor_j42 C hQ  _ _ _ _ hm)
      · have hm := zIf hm c14
        refine z_iconst (v := (3 : Int32)) C dX8_boundFor_37 (by decide) ?_
        refine z_goto (tgt := 42) C dX8_boundFor_38 (by decide) ?_
        exact z_sub [0, 1, 2] rfl (w_X8_boundFor_j42 C hQ  _ _ _ _ hm)
    · have hm := zIt hm c12
      refine z_iconst (v := (2 : Int32)) C dX8_boundFor_22 (by decide) ?_
      refine z_goto (tgt := 42) C dX8_boundFor_23 (by decide) ?_
      exact z_sub [0, 1, 2] rfl (w_X8_boundFor_j42 C hQ  _ _ _ _ hm)
  · have hm := zIt hm c9
    refine z_iconst (v := (1 : Int32)) C dX8_boundFor_8 (by decide) ?_
    refine z_goto (tgt := 42) C dX8_boundFor_9 (by decide) ?_
    exact z_sub [0, 1, 2] rfl (w_X8_boundFor_j42 C hQ  _ _ _ _ hm)
set_option maxRecDepth 100000 in
set_option maxHeartbeats 4000000 in
theorem c_X8_boundFor {h : zH} {ad : Nat → Nat} (hI : zI ad zLM.length) (hst : h.1.stackTraces = false) {n : Nat} {v1 : Int32} {v2 : Int32} {s s9 : zS} {r : Int32} (hm : m_X8_boundFor n v1 v2 s = some (r, s9)) : zMR h ad zLM false yX8_boundFor wsX8_boundFor 6 148 [.ref (ad 0), .int v1, .int v2] s (.inl r) s9 :=
  z_start (cc := cX8_boundFor) (nL := 3) (ret := (some .int)) (own := RX8) (by decide +kernel) rfl rfl hI hst (Nat.le_of_ble_eq_true rfl) (fun G C hQ => w_X8_boundFor_e C hQ _ hm)
set_option maxRecDepth 100000 in
theorem eX8_dependsOn_uX8 : ∀ w ∈ wsX80, w ∈ wsX8_dependsOn := by decide +kernel
set_option maxRecDepth 100000 in
theorem eX8_dependsOn_f65 : Cond.fieldLink RX8 65 RX8 (TX8 23).2.1 (TX8 23).2.2.1 ∈ wsX8_dependsOn := by decide +kernel
set_option maxRecDepth 100000 in
set_option maxHeartbeats 4000000 in
theorem w_X8_dependsOn_j20 {h : zH} {ad : Nat → Nat} {G : zG} (C : zC h ad zLM 3 G cX8_dependsOn RX8 wsX8_dependsOn 2 46) {n : Nat} {r : Int32} {s9 : zS} (hQ : zQ h ad zLM G false (.inl r) s9 (some .boolean)) (v1 : Int32) (v2 : Int32) (t1 : Int32) (s : zS) (hm : m_X8_dependsOn_j20 n v1 v2 t1 s = some (r, s9)) : zV h ad zLM 3 G s 20 [(0, .ref (ad 0)), (1, .int v1), (2, .int v2)] [.int t1, .ref (ad 0)] := by
  rw [m_X8_dependsOn_j20] at hm
  obtain ⟨s1, e_s1, hm⟩ := zLt_of hm
  refine z_put C kM0 vc8 eX8_dependsOn_uX8 tyX8_ok nmX8 23 (by decide) rfl eX8_dependsOn_f65 rfl rfl rfl e_s1 dX8_dependsOn_20 ?_
  refine z_aload_n C dX8_dependsOn_23 rfl 0 rfl ?_
  refine z_get C kM0 vc8 eX8_dependsOn_uX8 23 (by decide) rfl eX8_dependsOn_f65 rfl dX8_dependsOn_24 ?_
  refine z_if_le (tgt := 32) C dX8_dependsOn_27 (by decide) (fun c2 => ?_) (fun c2 => ?_)
  · have hm := zIt hm c2
    refine z_aload_n C dX8_dependsOn_32 rfl 0 rfl ?_
    refine z_iconst (v := (-1 : Int32)) C dX8_dependsOn_33 (by decide) ?_
    obtain ⟨x3, s4, q_s4, hm⟩ := zBd_of hm
    refine z_cV (vd := true) (Cn := RX8) (k := 0) C 1 [.int (-1 : Int32)] [] (c_X8_laysNeeds (zC_I C) (zC_st C)  q_s4) gX8_dependsOn_X8_laysNeeds (by decide +kernel) kM0 vc8 rfl rfl dX8_dependsOn_34 rfl ⟨Nat.le_of_ble_eq_true rfl, Nat.le_of_ble_eq_true rfl⟩ rfl (Nat.le_of_ble_eq_true rfl) ?_
    refine z_aload_n C dX8_dependsOn_37 rfl 0 rfl ?_
    refine z_iload_n C dX8_dependsOn_38 rfl 1 rfl ?_
    refine z_iload_n C dX8_dependsOn_39 rfl 2 rfl ?_
    obtain ⟨x5, s6, q_s6, hm⟩ := zBd_of hm
    refine z_cV (vd := false) (Cn := RX8) (k := 0) C 2 [.int v1, .int v2] [] (c_X8_depends (zC_I C) (zC_st C)  q_s6) gX8_dependsOn_X8_depends (by decide +kernel) kM0 vc8 rfl rfl dX8_dependsOn_40 rfl ⟨Nat.le_of_ble_eq_true rfl, Nat.le_of_ble_eq_true rfl⟩ rfl (Nat.le_of_ble_eq_true rfl) ?_
    obtain ⟨g7, hm⟩ := zGd_of hm
    exact z_zret0 C hQ (zRt_of hm).1 (zRt_of hm).2 g7 dX8_dependsOn_43
  · have hm := zIf hm c2
    refine z_iconst (v := (0 : Int32)) C dX8_dependsOn_30 (by decide) ?_
    exact z_zret0 C hQ (zRt_of hm).1 (zRt_of hm).2 (by decide) dX8_dependsOn_31
set_option maxRecDepth 100000 in
set_option maxHeartbeats 4000000 in
theorem w_X8_dependsOn_e {h : zH} {ad : Nat → Nat} {G : zG} (C : zC h ad zLM 3 G cX8_dependsOn RX8 wsX8_dependsOn 2 46) {n : Nat} {r : Int32} {s9 : zS} (hQ : zQ h ad zLM G false (.inl r) s9 (some .boolean)) {v1 : Int32} {v2 : Int32} (s : zS) (hm : m_X8_dependsOn n v1 v2 s = some (r, s9)) : zV h ad zLM 3 G s 0 [(0, .ref (ad 0)), (1, .int v1), (2, .int v2)] [] := by
  rw [m_X8_dependsOn] at hm
  refine z_aload_n C dX8_dependsOn_0 rfl 0 rfl ?_
  refine z_iload_n C dX8_dependsOn_1 rfl 1 rfl ?_
  obtain ⟨x8, s9, q_s9, hm⟩ := zBd_of hm
  refine z_cS (vd := false) C 1 [.int v1] [.ref (ad 0)] (c_X8_isLine (zC_I C) (zC_st C)  q_s9) gX8_dependsOn_X8_isLine (by decide +kernel) rfl dX8_dependsOn_2 rfl ⟨Nat.le_of_ble_eq_true rfl, Nat.le_of_ble_eq_true rfl⟩ rfl (Nat.le_of_ble_eq_true rfl) ?_
  refine z_if_eq (tgt := 19) C dX8_dependsOn_5 (by decide) (fun c10 => ?_) (fun c10 => ?_)
  · have hm := zIt hm c10
    refine z_iconst (v := (1 : Int32)) C dX8_dependsOn_19 (by decide) ?_
    exact z_sub [0, 1, 2] rfl (w_X8_dependsOn_j20 C hQ  _ _ _ _ hm)
  · have hm := zIf hm c10
    refine z_iload_n C dX8_dependsOn_8 rfl 2 rfl ?_
    obtain ⟨x11, s12, q_s12, hm⟩ := zBd_of hm
    refine z_cS (vd := false) C 1 [.int v2] [.ref (ad 0)] (c_X8_isLine (zC_I C) (zC_st C)  q_s12) gX8_dependsOn_X8_isLine (by decide +kernel) rfl dX8_dependsOn_9 rfl ⟨Nat.le_of_ble_eq_true rfl, Nat.le_of_ble_eq_true rfl⟩ rfl (Nat.le_of_ble_eq_true rfl) ?_
    refine z_if_eq (tgt := 19) C dX8_dependsOn_12 (by decide) (fun c13 => ?_) (fun c13 => ?_)
    · have hm := zIt hm c13
      refine z_iconst (v := (1 : Int32)) C dX8_dependsOn_19 (by decide) ?_
      exact z_sub [0, 1, 2] rfl (w_X8_dependsOn_j20 C hQ  _ _ _ _ hm)
    · have hm := zIf hm c13
      refine z_iconst (v := (0 : Int32)) C dX8_dependsOn_15 (by decide) ?_
      refine z_goto (tgt := 20) C dX8_dependsOn_16 (by decide) ?_
      exact z_sub [0, 1, 2] rfl (w_X8_dependsOn_j20 C hQ  _ _ _ _ hm)
set_option maxRecDepth 100000 in
set_option maxHeartbeats 4000000 in
theorem c_X8_dependsOn {h : zH} {ad : Nat → Nat} (hI : zI ad zLM.length) (hst : h.1.stackTraces = false) {n : Nat} {v1 : Int32} {v2 : Int32} {s s9 : zS} {r : Int32} (hm : m_X8_dependsOn n v1 v2 s = some (r, s9)) : zMR h ad zLM false yX8_dependsOn wsX8_dependsOn 2 46 [.ref (ad 0), .int v1, .int v2] s (.inl r) s9 :=
  z_start (cc := cX8_dependsOn) (nL := 3) (ret := (some .boolean)) (own := RX8) (by decide +kernel) rfl rfl hI hst (Nat.le_of_ble_eq_true rfl) (fun G C hQ => w_X8_dependsOn_e C hQ _ hm)
set_option maxRecDepth 100000 in
theorem eX8_influence_uX8 : ∀ w ∈ wsX80, w ∈ wsX8_influence := by decide +kernel
set_option maxRecDepth 100000 in
theorem eX8_influence_f40 : Cond.fieldLink RX8 40 RX8 (TX8 14).2.1 (TX8 14).2.2.1 ∈ wsX8_influence := by decide +kernel
set_option maxRecDepth 100000 in
theorem eX8_influence_f56 : Cond.fieldLink RX8 56 RX8 (TX8 19).2.1 (TX8 19).2.2.1 ∈ wsX8_influence := by decide +kernel
set_option maxRecDepth 100000 in
theorem eX8_influence_f19 : Cond.fieldLink RX8 19 RX8 (TX8 3).2.1 (TX8 3).2.2.1 ∈ wsX8_influence := by decide +kernel
set_option maxRecDepth 100000 in
theorem eX8_influence_f65 : Cond.fieldLink RX8 65 RX8 (TX8 23).2.1 (TX8 23).2.2.1 ∈ wsX8_influence := by decide +kernel
set_option maxRecDepth 100000 in
theorem eX8_influence_f7 : Cond.fieldLink RX8 7 RX8 (TX8 0).2.1 (TX8 0).2.2.1 ∈ wsX8_influence := by decide +kernel
set_option maxRecDepth 100000 in
set_option maxHeartbeats 4000000 in
theorem w_X8_influence_j96 {h : zH} {ad : Nat → Nat} {G : zG} (C : zC h ad zLM 4 G cX8_influence RX8 wsX8_influence 6 148) {n : Nat} {r : Int32} {s9 : zS} (hQ : zQ h ad zLM G false (.inl r) s9 (some .int)) : ∀ (f : Nat) (v2 : Int32) (v3 : Int32) (s : zS), m_X8_influence_j96 n f v2 v3 s = some (r, s9) → zV h ad zLM 4 G s 96 [(0, .ref (ad 0)), (2, .int v2), (3, .int v3)] [] := by
  intro f
  induction f with
  | zero => intro v2 v3 s hm; simp [m_X8_influence_j96] at hm
  | succ f ih =>
    intro v2 v3 s hm
    rw [m_X8_influence_j96] at hm
    refine z_iload_n C dX8_influence_96 rfl 2 rfl ?_
    refine z_bipush (v := (16 : Int32)) C dX8_influence_97 (by decide) ?_
    refine z_icmp_ge (tgt := 131) C dX8_influence_99 (by decide) (fun c1 => ?_) (fun c1 => ?_)
    · have hm := zIt hm c1
      refine z_iload_n C dX8_influence_131 rfl 1 rfl ?_
      exact z_iret0 C hQ (zRt_of hm).1 (zRt_of hm).2 dX8_influence_132
    · have hm := zIf hm c1
      refine z_iload_n C dX8_influence_102 rfl 1 rfl ?_
      refine z_aload_n C dX8_influence_103 rfl 0 rfl ?_
      refine z_getr C kM0 vc8 eX8_influence_uX8 14 (by decide) rfl eX8_influence_f40 rfl dX8_influence_104 ?_
      refine z_iload_n C dX8_influence_107 rfl 2 rfl ?_
      obtain ⟨x2, i_x2, e_x2, hm⟩ := zRd_of hm
      refine z_iald C kM11 i_x2 e_x2 dX8_influence_108 ?_
      refine z_aload_n C dX8_influence_109 rfl 0 rfl ?_
      refine z_getr C kM0 vc8 eX8_influence_uX8 19 (by decide) rfl eX8_influence_f56 rfl dX8_influence_110 ?_
      refine z_iload_n C dX8_influence_113 rfl 2 rfl ?_
      obtain ⟨x3, i_x3, e_x3, hm⟩ := zRd_of hm
      refine z_iald C kM16 i_x3 e_x3 dX8_influence_114 ?_
      refine z_icmp_eq (tgt := 122) C dX8_influence_115 (by decide) (fun c4 => ?_) (fun c4 => ?_)
      · have hm := zIt hm c4
        refine z_iconst (v := (0 : Int32)) C dX8_influence_122 (by decide) ?_
        refine z_iadd C dX8_influence_123 ?_
        obtain ⟨x5, e_x5, hm⟩ := zLt_of hm
        refine z_istore_n (y := x5) (lv' := [(2, .int x5), (0, .ref (ad 0)), (3, .int v3)]) C dX8_influence_124 rfl (by decide) e_x5 rfl ?_
        obtain ⟨x6, e_x6, hm⟩ := zLt_of hm
        refine z_iinc (j := 2) (v := x6) (d := (1 : Int32)) (lv' := [(3, .int x6), (2, .int x5), (0, .ref (ad 0))]) C dX8_influence_125 rfl (by decide) e_x6 (by decide) rfl ?_
        refine z_goto (tgt := 96) C dX8_influence_128 (by decide) ?_
        exact z_sub [2, 1, 0] rfl (ih _ _ _ hm)
      · have hm := zIf hm c4
        refine z_iconst (v := (1 : Int32)) C dX8_influence_118 (by decide) ?_
        refine z_goto (tgt := 123) C dX8_influence_119 (by decide) ?_
        refine z_iadd C dX8_influence_123 ?_
        obtain ⟨x7, e_x7, hm⟩ := zLt_of hm
        refine z_istore_n (y := x7) (lv' := [(2, .int x7), (0, .ref (ad 0)), (3, .int v3)]) C dX8_influence_124 rfl (by decide) e_x7 rfl ?_
        obtain ⟨x8, e_x8, hm⟩ := zLt_of hm
        refine z_iinc (j := 2) (v := x8) (d := (1 : Int32)) (lv' := [(3, .int x8), (2, .int x7), (0, .ref (ad 0))]) C dX8_influence_125 rfl (by decide) e_x8 (by decide) rfl ?_
        refine z_goto (tgt := 96) C dX8_influence_128 (by decide) ?_
        exact z_sub [2, 1, 0] rfl (ih _ _ _ hm)
set_option maxRecDepth 100000 in
set_option maxHeartbeats 4000000 in
theorem w_X8_influence_j42 {h : zH} {ad : Nat → Nat} {G : zG} (C : zC h ad zLM 4 G cX8_influence RX8 wsX8_influence 6 148) {n : Nat} {r : Int32} {s9 : zS} (hQ : zQ h ad zLM G false (.inl r) s9 (some .int)) : ∀ (f : Nat) (v1 : Int32) (v2 : Int32) (s : zS), m_X8_influence_j42 n f v1 v2 s = some (r, s9) → zV h ad zLM 4 G s 42 [(0, .ref (ad 0)), (1, .int v1), (2, .int v2)] [] := by
  intro f
  induction f with
  | zero => intro v1 v2 s hm; simp [m_X8_influence_j42] at hm
  | succ f ih =>
    intro v1 v2 s hm
    rw [m_X8_influence_j42] at hm
    refine z_iload_n C dX8_influence_42 rfl 2 rfl ?_
    refine z_bipush (v := (16 : Int32)) C dX8_influence_43 (by decide) ?_
    refine z_icmp_ge (tgt := 66) C dX8_influence_45 (by decide) (fun c9 => ?_) (fun c9 => ?_)
    · have hm := zIt hm c9
      refine z_aload_n C dX8_influence_66 rfl 0 rfl ?_
      refine z_getr C kM0 vc8 eX8_influence_uX8 3 (by decide) rfl eX8_influence_f19 rfl dX8_influence_67 ?_
      refine z_iload_n C dX8_influence_70 rfl 1 rfl ?_
      refine z_dup2 C dX8_influence_71 rfl rfl ?_
      obtain ⟨x10, i_x10, e_x10, hm⟩ := zRd_of hm
      refine z_iald C kM4 i_x10 e_x10 dX8_influence_72 ?_
      refine z_iconst (v := (1 : Int32)) C dX8_influence_73 (by decide) ?_
      refine z_iadd C dX8_influence_74 ?_
      obtain ⟨s11, i_s11, e_s11, hm⟩ := zWr_of hm
      refine z_iast C kM4 i_s11 e_s11 dX8_influence_75 ?_
      refine z_aload_n C dX8_influence_76 rfl 0 rfl ?_
      refine z_iconst (v := (-1 : Int32)) C dX8_influence_77 (by decide) ?_
      refine z_iconst (v := (0 : Int32)) C dX8_influence_78 (by decide) ?_
      obtain ⟨x12, s13, q_s13, hm⟩ := zBd_of hm
      refine z_cV (vd := true) (Cn := RX8) (k := 0) C 2 [.int (-1 : Int32), .int (0 : Int32)] [] (c_X8_solves (zC_I C) (zC_st C)  q_s13) gX8_influence_X8_solves (by decide +kernel) kM0 vc8 rfl rfl dX8_influence_79 rfl ⟨Nat.le_of_ble_eq_true rfl, Nat.le_of_ble_eq_true rfl⟩ rfl (Nat.le_of_ble_eq_true rfl) ?_
      refine z_aload_n C dX8_influence_82 rfl 0 rfl ?_
      refine z_getr C kM0 vc8 eX8_influence_uX8 3 (by decide) rfl eX8_influence_f19 rfl dX8_influence_83 ?_
      refine z_iload_n C dX8_influence_86 rfl 1 rfl ?_
      refine z_dup2 C dX8_influence_87 rfl rfl ?_
      obtain ⟨x14, i_x14, e_x14, hm⟩ := zRd_of hm
      refine z_iald C kM4 i_x14 e_x14 dX8_influence_88 ?_
      refine z_iconst (v := (1 : Int32)) C dX8_influence_89 (by decide) ?_
      refine z_isub C dX8_influence_90 ?_
      obtain ⟨s15, i_s15, e_s15, hm⟩ := zWr_of hm
      refine z_iast C kM4 i_s15 e_s15 dX8_influence_91 ?_
      refine z_iconst (v := (0 : Int32)) C dX8_influence_92 (by decide) ?_
      refine z_istore_n (y := (0 : Int32)) (lv' := [(2, .int (0 : Int32)), (0, .ref (ad 0)), (1, .int v1)]) C dX8_influence_93 rfl (by decide) rfl rfl ?_
      refine z_iconst (v := (0 : Int32)) C dX8_influence_94 (by decide) ?_
      refine z_istore_n (y := (0 : Int32)) (lv' := [(3, .int (0 : Int32)), (2, .int (0 : Int32)), (0, .ref (ad 0)), (1, .int v1)]) C dX8_influence_95 rfl (by decide) rfl rfl ?_
      exact z_sub [2, 1, 0] rfl (w_X8_influence_j96 C hQ  _ _ _ _ hm)
    · have hm := zIf hm c9
      refine z_aload_n C dX8_influence_48 rfl 0 rfl ?_
      refine z_getr C kM0 vc8 eX8_influence_uX8 19 (by decide) rfl eX8_influence_f56 rfl dX8_influence_49 ?_
      refine z_iload_n C dX8_influence_52 rfl 2 rfl ?_
      refine z_aload_n C dX8_influence_53 rfl 0 rfl ?_
      refine z_getr C kM0 vc8 eX8_influence_uX8 14 (by decide) rfl eX8_influence_f40 rfl dX8_influence_54 ?_
      refine z_iload_n C dX8_influence_57 rfl 2 rfl ?_
      obtain ⟨x16, i_x16, e_x16, hm⟩ := zRd_of hm
      refine z_iald C kM11 i_x16 e_x16 dX8_influence_58 ?_
      obtain ⟨s17, i_s17, e_s17, hm⟩ := zWr_of hm
      refine z_iast C kM16 i_s17 e_s17 dX8_influence_59 ?_
      obtain ⟨x18, e_x18, hm⟩ := zLt_of hm
      refine z_iinc (j := 2) (v := x18) (d := (1 : Int32)) (lv' := [(2, .int x18), (0, .ref (ad 0)), (1, .int v1)]) C dX8_influence_60 rfl (by decide) e_x18 (by decide) rfl ?_
      refine z_goto (tgt := 42) C dX8_influence_63 (by decide) ?_
      exact z_sub [1, 2, 0] rfl (ih _ _ _ hm)
set_option maxRecDepth 100000 in
set_option maxHeartbeats 4000000 in
theorem w_X8_influence_j13 {h : zH} {ad : Nat → Nat} {G : zG} (C : zC h ad zLM 4 G cX8_influence RX8 wsX8_influence 6 148) {n : Nat} {r : Int32} {s9 : zS} (hQ : zQ h ad zLM G false (.inl r) s9 (some .int)) (v1 : Int32) (t1 : Int32) (s : zS) (hm : m_X8_influence_j13 n v1 t1 s = some (r, s9)) : zV h ad zLM 4 G s 13 [(0, .ref (ad 0)), (1, .int v1)] [.int t1, .ref (ad 0)] := by
  rw [m_X8_influence_j13] at hm
  obtain ⟨s19, e_s19, hm⟩ := zLt_of hm
  refine z_put C kM0 vc8 eX8_influence_uX8 tyX8_ok nmX8 23 (by decide) rfl eX8_influence_f65 rfl rfl rfl e_s19 dX8_influence_13 ?_
  refine z_aload_n C dX8_influence_16 rfl 0 rfl ?_
  refine z_get C kM0 vc8 eX8_influence_uX8 23 (by decide) rfl eX8_influence_f65 rfl dX8_influence_17 ?_
  refine z_if_gt (tgt := 32) C dX8_influence_20 (by decide) (fun c20 => ?_) (fun c20 => ?_)
  · have hm := zIt hm c20
    refine z_iconst (v := (0 : Int32)) C dX8_influence_32 (by decide) ?_
    exact z_iret0 C hQ (zRt_of hm).1 (zRt_of hm).2 dX8_influence_33
  · have hm := zIf hm c20
    refine z_aload_n C dX8_influence_23 rfl 0 rfl ?_
    refine z_getr C kM0 vc8 eX8_influence_uX8 0 (by decide) rfl eX8_influence_f7 rfl dX8_influence_24 ?_
    refine z_iload_n C dX8_influence_27 rfl 1 rfl ?_
    obtain ⟨x21, i_x21, e_x21, hm⟩ := zRd_of hm
    refine z_iald C kM1 i_x21 e_x21 dX8_influence_28 ?_
    refine z_if_eq (tgt := 34) C dX8_influence_29 (by decide) (fun c22 => ?_) (fun c22 => ?_)
    · have hm := zIt hm c22
      refine z_aload_n C dX8_influence_34 rfl 0 rfl ?_
      refine z_iconst (v := (-1 : Int32)) C dX8_influence_35 (by decide) ?_
      refine z_iconst (v := (0 : Int32)) C dX8_influence_36 (by decide) ?_
      obtain ⟨x23, s24, q_s24, hm⟩ := zBd_of hm
      refine z_cV (vd := true) (Cn := RX8) (k := 0) C 2 [.int (-1 : Int32), .int (0 : Int32)] [] (c_X8_solves (zC_I C) (zC_st C)  q_s24) gX8_influence_X8_solves (by decide +kernel) kM0 vc8 rfl rfl dX8_influence_37 rfl ⟨Nat.le_of_ble_eq_true rfl, Nat.le_of_ble_eq_true rfl⟩ rfl (Nat.le_of_ble_eq_true rfl) ?_
      refine z_iconst (v := (0 : Int32)) C dX8_influence_40 (by decide) ?_
      refine z_istore_n (y := (0 : Int32)) (lv' := [(2, .int (0 : Int32)), (0, .ref (ad 0)), (1, .int v1)]) C dX8_influence_41 rfl (by decide) rfl rfl ?_
      exact z_sub [1, 2, 0] rfl (w_X8_influence_j42 C hQ  _ _ _ _ hm)
    · have hm := zIf hm c22
      refine z_iconst (v := (0 : Int32)) C dX8_influence_32 (by decide) ?_
      exact z_iret0 C hQ (zRt_of hm).1 (zRt_of hm).2 dX8_influence_33
set_option maxRecDepth 100000 in
set_option maxHeartbeats 4000000 in
theorem w_X8_influence_e {h : zH} {ad : Nat → Nat} {G : zG} (C : zC h ad zLM 4 G cX8_influence RX8 wsX8_influence 6 148) {n : Nat} {r : Int32} {s9 : zS} (hQ : zQ h ad zLM G false (.inl r) s9 (some .int)) {v1 : Int32} (s : zS) (hm : m_X8_influence n v1 s = some (r, s9)) : zV h ad zLM 4 G s 0 [(0, .ref (ad 0)), (1, .int v1)] [] := by
  rw [m_X8_influence] at hm
  refine z_aload_n C dX8_influence_0 rfl 0 rfl ?_
  refine z_iload_n C dX8_influence_1 rfl 1 rfl ?_
  obtain ⟨x25, s26, q_s26, hm⟩ := zBd_of hm
  refine z_cS (vd := false) C 1 [.int v1] [.ref (ad 0)] (c_X8_isLine (zC_I C) (zC_st C)  q_s26) gX8_influence_X8_isLine (by decide +kernel) rfl dX8_influence_2 rfl ⟨Nat.le_of_ble_eq_true rfl, Nat.le_of_ble_eq_true rfl⟩ rfl (Nat.le_of_ble_eq_true rfl) ?_
  refine z_if_eq (tgt := 12) C dX8_influence_5 (by decide) (fun c27 => ?_) (fun c27 => ?_)
  · have hm := zIt hm c27
    refine z_iconst (v := (1 : Int32)) C dX8_influence_12 (by decide) ?_
    exact z_sub [0, 1] rfl (w_X8_influence_j13 C hQ  _ _ _ hm)
  · have hm := zIf hm c27
    refine z_iconst (v := (0 : Int32)) C dX8_influence_8 (by decide) ?_
    refine z_goto (tgt := 13) C dX8_influence_9 (by decide) ?_
    exact z_sub [0, 1] rfl (w_X8_influence_j13 C hQ  _ _ _ hm)
set_option maxRecDepth 100000 in
set_option maxHeartbeats 4000000 in
theorem c_X8_influence {h : zH} {ad : Nat → Nat} (hI : zI ad zLM.length) (hst : h.1.stackTraces = false) {n : Nat} {v1 : Int32} {s s9 : zS} {r : Int32} (hm : m_X8_influence n v1 s = some (r, s9)) : zMR h ad zLM false yX8_influence wsX8_influence 6 148 [.ref (ad 0), .int v1] s (.inl r) s9 :=
  z_start (cc := cX8_influence) (nL := 4) (ret := (some .int)) (own := RX8) (by decide +kernel) rfl rfl hI hst (Nat.le_of_ble_eq_true rfl) (fun G C hQ => w_X8_influence_e C hQ _ hm)
set_option maxRecDepth 100000 in
theorem eX8_why_uX8 : ∀ w ∈ wsX80, w ∈ wsX8_why := by decide +kernel
set_option maxRecDepth 100000 in
theorem eX8_why_f16 : Cond.fieldLink RX8 16 RX8 (TX8 2).2.1 (TX8 2).2.2.1 ∈ wsX8_why := by decide +kernel
set_option maxRecDepth 100000 in
theorem eX8_why_f53 : Cond.fieldLink RX8 53 RX8 (TX8 18).2.1 (TX8 18).2.2.1 ∈ wsX8_why := by decide +kernel
set_option maxRecDepth 100000 in
theorem eX8_why_f13 : Cond.fieldLink RX8 13 RX8 (TX8 1).2.1 (TX8 1).2.2.1 ∈ wsX8_why := by decide +kernel
set_option maxRecDepth 100000 in
theorem eX8_why_f40 : Cond.fieldLink RX8 40 RX8 (TX8 14).2.1 (TX8 14).2.2.1 ∈ wsX8_why := by decide +kernel
set_option maxRecDepth 100000 in
theorem eX8_why_f7 : Cond.fieldLink RX8 7 RX8 (TX8 0).2.1 (TX8 0).2.2.1 ∈ wsX8_why := by decide +kernel
set_option maxRecDepth 100000 in
theorem eX8_why_f65 : Cond.fieldLink RX8 65 RX8 (TX8 23).2.1 (TX8 23).2.2.1 ∈ wsX8_why := by decide +kernel
set_option maxRecDepth 100000 in
set_option maxHeartbeats 4000000 in
theorem w_X8_why_j220 {h : zH} {ad : Nat → Nat} {G : zG} (C : zC h ad zLM 11 G cX8_why RX8 wsX8_why 6 148) {n : Nat} {r : Int32} {s9 : zS} (hQ : zQ h ad zLM G false (.inl r) s9 (some .int)) {rec52 : Int32 → Int32 → Int32 → Int32 → zS → Option (Int32 × zS)} (hrec52 : ∀ (v2 : Int32) (v3 : Int32) (v4 : Int32) (v5 : Int32) (s : zS), rec52 v2 v3 v4 v5 s = some (r, s9) → zV h ad zLM 11 G s 52 [(0, .ref (ad 0)), (2, .int v2), (3, .int v3), (4, .int v4), (5, .int v5)] []) (v2 : Int32) (v3 : Int32) (v4 : Int32) (v5 : Int32) (v6 : Int32) (v10 : Int32) (s : zS) (hm : m_X8_why_j220 rec52 n v2 v3 v4 v5 v6 v10 s = some (r, s9)) : zV h ad zLM 11 G s 220 [(0, .ref (ad 0)), (2, .int v2), (3, .int v3), (4, .int v4), (5, .int v5), (6, .int v6), (10, .int v10)] [] := by
  rw [m_X8_why_j220] at hm
  refine z_iload C dX8_why_220 6 rfl ?_
  refine z_if_eq (tgt := 270) C dX8_why_222 (by decide) (fun c1 => ?_) (fun c1 => ?_)
  · have hm := zIt hm c1
    obtain ⟨x2, e_x2, hm⟩ := zLt_of hm
    refine z_iinc (j := 4) (v := x2) (d := (1 : Int32)) (lv' := [(5, .int x2), (0, .ref (ad 0)), (2, .int v2), (3, .int v3), (4, .int v4), (6, .int v6), (10, .int v10)]) C dX8_why_270 rfl (by decide) e_x2 (by decide) rfl ?_
    refine z_goto (tgt := 52) C dX8_why_273 (by decide) ?_
    exact z_sub [1, 2, 3, 4, 0] rfl (hrec52 _ _ _ _ _ hm)
  · have hm := zIf hm c1
    refine z_iload C dX8_why_225 3 rfl ?_
    refine z_aload_n C dX8_why_227 rfl 0 rfl ?_
    refine z_getr C kM0 vc8 eX8_why_uX8 2 (by decide) rfl eX8_why_f16 rfl dX8_why_228 ?_
    refine z_iload C dX8_why_231 5 rfl ?_
    obtain ⟨x3, i_x3, e_x3, hm⟩ := zRd_of hm
    refine z_iald C kM3 i_x3 e_x3 dX8_why_233 ?_
    refine z_ishr C dX8_why_234 ?_
    refine z_iconst (v := (1 : Int32)) C dX8_why_235 (by decide) ?_
    refine z_iand C dX8_why_236 ?_
    refine z_if_ne (tgt := 270) C dX8_why_237 (by decide) (fun c4 => ?_) (fun c4 => ?_)
    · have hm := zIf hm c4
      obtain ⟨x5, e_x5, hm⟩ := zLt_of hm
      refine z_iinc (j := 4) (v := x5) (d := (1 : Int32)) (lv' := [(5, .int x5), (0, .ref (ad 0)), (2, .int v2), (3, .int v3), (4, .int v4), (6, .int v6), (10, .int v10)]) C dX8_why_270 rfl (by decide) e_x5 (by decide) rfl ?_
      refine z_goto (tgt := 52) C dX8_why_273 (by decide) ?_
      exact z_sub [1, 2, 3, 4, 0] rfl (hrec52 _ _ _ _ _ hm)
    · have hm := zIt hm c4
      refine z_aload_n C dX8_why_240 rfl 0 rfl ?_
      refine z_getr C kM0 vc8 eX8_why_uX8 18 (by decide) rfl eX8_why_f53 rfl dX8_why_241 ?_
      refine z_iload_n C dX8_why_244 rfl 2 rfl ?_
      refine z_aload_n C dX8_why_245 rfl 0 rfl ?_
      refine z_getr C kM0 vc8 eX8_why_uX8 2 (by decide) rfl eX8_why_f16 rfl dX8_why_246 ?_
      refine z_iload C dX8_why_249 5 rfl ?_
      obtain ⟨x6, i_x6, e_x6, hm⟩ := zRd_of hm
      refine z_iald C kM3 i_x6 e_x6 dX8_why_251 ?_
      obtain ⟨s7, i_s7, e_s7, hm⟩ := zWr_of hm
      refine z_iast C kM15 i_s7 e_s7 dX8_why_252 ?_
      refine z_iload C dX8_why_253 3 rfl ?_
      refine z_iconst (v := (1 : Int32)) C dX8_why_255 (by decide) ?_
      refine z_aload_n C dX8_why_256 rfl 0 rfl ?_
      refine z_getr C kM0 vc8 eX8_why_uX8 2 (by decide) rfl eX8_why_f16 rfl dX8_why_257 ?_
      refine z_iload C dX8_why_260 5 rfl ?_
      obtain ⟨x8, i_x8, e_x8, hm⟩ := zRd_of hm
      refine z_iald C kM3 i_x8 e_x8 dX8_why_262 ?_
      refine z_ishl C dX8_why_263 ?_
      refine z_ior C dX8_why_264 ?_
      obtain ⟨x9, e_x9, hm⟩ := zLt_of hm
      refine z_istore (y := x9) (lv' := [(4, .int x9), (0, .ref (ad 0)), (2, .int v2), (3, .int v3), (5, .int v5), (6, .int v6), (10, .int v10)]) C dX8_why_265 (by decide) e_x9 rfl ?_
      obtain ⟨x10, e_x10, hm⟩ := zLt_of hm
      refine z_iinc (j := 3) (v := x10) (d := (1 : Int32)) (lv' := [(3, .int x10), (4, .int x9), (0, .ref (ad 0)), (2, .int v2), (5, .int v5), (6, .int v6), (10, .int v10)]) C dX8_why_267 rfl (by decide) e_x10 (by decide) rfl ?_
      obtain ⟨x11, e_x11, hm⟩ := zLt_of hm
      refine z_iinc (j := 4) (v := x11) (d := (1 : Int32)) (lv' := [(5, .int x11), (3, .int x10), (4, .int x9), (0, .ref (ad 0)), (2, .int v2), (6, .int v6), (10, .int v10)]) C dX8_why_270 rfl (by decide) e_x11 (by decide) rfl ?_
      refine z_goto (tgt := 52) C dX8_why_273 (by decide) ?_
      exact z_sub [3, 4, 1, 2, 0] rfl (hrec52 _ _ _ _ _ hm)
set_option maxRecDepth 100000 in
set_option maxHeartbeats 4000000 in
theorem w_X8_why_j168 {h : zH} {ad : Nat → Nat} {G : zG} (C : zC h ad zLM 11 G cX8_why RX8 wsX8_why 6 148) {n : Nat} {r : Int32} {s9 : zS} (hQ : zQ h ad zLM G false (.inl r) s9 (some .int)) {rec52 : Int32 → Int32 → Int32 → Int32 → zS → Option (Int32 × zS)} (hrec52 : ∀ (v2 : Int32) (v3 : Int32) (v4 : Int32) (v5 : Int32) (s : zS), rec52 v2 v3 v4 v5 s = some (r, s9) → zV h ad zLM 11 G s 52 [(0, .ref (ad 0)), (2, .int v2), (3, .int v3), (4, .int v4), (5, .int v5)] []) (v2 : Int32) (v3 : Int32) (v4 : Int32) (v5 : Int32) (v6 : Int32) (v9 : Int32) (t0 : Int32) (s : zS) (hm : m_X8_why_j168 rec52 n v2 v3 v4 v5 v6 v9 t0 s = some (r, s9)) : zV h ad zLM 11 G s 168 [(0, .ref (ad 0)), (2, .int v2), (3, .int v3), (4, .int v4), (5, .int v5), (6, .int v6), (9, .int v9)] [.int t0] := by
  rw [m_X8_why_j168] at hm
  refine z_istore (y := t0) (lv' := [(10, .int t0), (0, .ref (ad 0)), (2, .int v2), (3, .int v3), (4, .int v4), (5, .int v5), (6, .int v6), (9, .int v9)]) C dX8_why_168 (by decide) rfl rfl ?_
  refine z_iload C dX8_why_170 7 rfl ?_
  refine z_if_eq (tgt := 220) C dX8_why_172 (by decide) (fun c12 => ?_) (fun c12 => ?_)
  · have hm := zIt hm c12
    exact z_sub [1, 2, 3, 4, 5, 6, 0] rfl (w_X8_why_j220 C hQ hrec52 _ _ _ _ _ _ _ hm)
  · have hm := zIf hm c12
    refine z_iload C dX8_why_175 4 rfl ?_
    refine z_aload_n C dX8_why_177 rfl 1 rfl ?_
    refine z_getr C kM0 vc8 eX8_why_uX8 1 (by decide) rfl eX8_why_f13 rfl dX8_why_178 ?_
    refine z_iload C dX8_why_181 6 rfl ?_
    obtain ⟨x13, i_x13, e_x13, hm⟩ := zRd_of hm
    refine z_iald C kM2 i_x13 e_x13 dX8_why_183 ?_
    refine z_ishr C dX8_why_184 ?_
    refine z_iconst (v := (1 : Int32)) C dX8_why_185 (by decide) ?_
    refine z_iand C dX8_why_186 ?_
    refine z_if_ne (tgt := 220) C dX8_why_187 (by decide) (fun c14 => ?_) (fun c14 => ?_)
    · have hm := zIf hm c14
      exact z_sub [1, 2, 3, 4, 5, 6, 0] rfl (w_X8_why_j220 C hQ hrec52 _ _ _ _ _ _ _ hm)
    · have hm := zIt hm c14
      refine z_aload_n C dX8_why_190 rfl 1 rfl ?_
      refine z_getr C kM0 vc8 eX8_why_uX8 18 (by decide) rfl eX8_why_f53 rfl dX8_why_191 ?_
      refine z_iload_n C dX8_why_194 rfl 3 rfl ?_
      refine z_aload_n C dX8_why_195 rfl 1 rfl ?_
      refine z_getr C kM0 vc8 eX8_why_uX8 1 (by decide) rfl eX8_why_f13 rfl dX8_why_196 ?_
      refine z_iload C dX8_why_199 6 rfl ?_
      obtain ⟨x15, i_x15, e_x15, hm⟩ := zRd_of hm
      refine z_iald C kM2 i_x15 e_x15 dX8_why_201 ?_
      obtain ⟨s16, i_s16, e_s16, hm⟩ := zWr_of hm
      refine z_iast C kM15 i_s16 e_s16 dX8_why_202 ?_
      refine z_iload C dX8_why_203 4 rfl ?_
      refine z_iconst (v := (1 : Int32)) C dX8_why_205 (by decide) ?_
      refine z_aload_n C dX8_why_206 rfl 1 rfl ?_
      refine z_getr C kM0 vc8 eX8_why_uX8 1 (by decide) rfl eX8_why_f13 rfl dX8_why_207 ?_
      refine z_iload C dX8_why_210 6 rfl ?_
      obtain ⟨x17, i_x17, e_x17, hm⟩ := zRd_of hm
      refine z_iald C kM2 i_x17 e_x17 dX8_why_212 ?_
      refine z_ishl C dX8_why_213 ?_
      refine z_ior C dX8_why_214 ?_
      obtain ⟨x18, e_x18, hm⟩ := zLt_of hm
      refine z_istore (y := x18) (lv' := [(4, .int x18), (10, .int t0), (0, .ref (ad 0)), (2, .int v2), (3, .int v3), (5, .int v5), (6, .int v6), (9, .int v9)]) C dX8_why_215 (by decide) e_x18 rfl ?_
      obtain ⟨x19, e_x19, hm⟩ := zLt_of hm
      refine z_iinc (j := 4) (v := x19) (d := (1 : Int32)) (lv' := [(3, .int x19), (4, .int x18), (10, .int t0), (0, .ref (ad 0)), (2, .int v2), (5, .int v5), (6, .int v6), (9, .int v9)]) C dX8_why_217 rfl (by decide) e_x19 (by decide) rfl ?_
      exact z_sub [3, 4, 0, 1, 5, 6, 2] rfl (w_X8_why_j220 C hQ hrec52 _ _ _ _ _ _ _ hm)
set_option maxRecDepth 100000 in
set_option maxHeartbeats 4000000 in
theorem w_X8_why_j139 {h : zH} {ad : Nat → Nat} {G : zG} (C : zC h ad zLM 11 G cX8_why RX8 wsX8_why 6 148) {n : Nat} {r : Int32} {s9 : zS} (hQ : zQ h ad zLM G false (.inl r) s9 (some .int)) {rec52 : Int32 → Int32 → Int32 → Int32 → zS → Option (Int32 × zS)} (hrec52 : ∀ (v2 : Int32) (v3 : Int32) (v4 : Int32) (v5 : Int32) (s : zS), rec52 v2 v3 v4 v5 s = some (r, s9) → zV h ad zLM 11 G s 52 [(0, .ref (ad 0)), (2, .int v2), (3, .int v3), (4, .int v4), (5, .int v5)] []) (v2 : Int32) (v3 : Int32) (v4 : Int32) (v5 : Int32) (v6 : Int32) (v7 : Int32) (v8 : Int32) (t0 : Int32) (s : zS) (hm : m_X8_why_j139 rec52 n v2 v3 v4 v5 v6 v7 v8 t0 s = some (r, s9)) : zV h ad zLM 11 G s 139 [(0, .ref (ad 0)), (2, .int v2), (3, .int v3), (4, .int v4), (5, .int v5), (6, .int v6), (7, .int v7), (8, .int v8)] [.int t0] := by
  rw [m_X8_why_j139] at hm
  refine z_istore (y := t0) (lv' := [(9, .int t0), (0, .ref (ad 0)), (2, .int v2), (3, .int v3), (4, .int v4), (5, .int v5), (6, .int v6), (7, .int v7), (8, .int v8)]) C dX8_why_139 (by decide) rfl rfl ?_
  refine z_iload C dX8_why_141 7 rfl ?_
  refine z_iconst (v := (1 : Int32)) C dX8_why_143 (by decide) ?_
  refine z_icmp_eq (tgt := 163) C dX8_why_144 (by decide) (fun c20 => ?_) (fun c20 => ?_)
  · have hm := zIt hm c20
    refine z_iconst (v := (1 : Int32)) C dX8_why_163 (by decide) ?_
    refine z_goto (tgt := 168) C dX8_why_164 (by decide) ?_
    exact z_sub [1, 2, 3, 4, 5, 6, 0] rfl (w_X8_why_j168 C hQ hrec52 _ _ _ _ _ _ _ _ hm)
  · have hm := zIf hm c20
    refine z_iload C dX8_why_147 7 rfl ?_
    refine z_iconst (v := (2 : Int32)) C dX8_why_149 (by decide) ?_
    refine z_icmp_eq (tgt := 163) C dX8_why_150 (by decide) (fun c21 => ?_) (fun c21 => ?_)
    · have hm := zIt hm c21
      refine z_iconst (v := (1 : Int32)) C dX8_why_163 (by decide) ?_
      refine z_goto (tgt := 168) C dX8_why_164 (by decide) ?_
      exact z_sub [1, 2, 3, 4, 5, 6, 0] rfl (w_X8_why_j168 C hQ hrec52 _ _ _ _ _ _ _ _ hm)
    · have hm := zIf hm c21
      refine z_iload C dX8_why_153 8 rfl ?_
      refine z_if_eq (tgt := 167) C dX8_why_155 (by decide) (fun c22 => ?_) (fun c22 => ?_)
      · have hm := zIt hm c22
        refine z_iconst (v := (0 : Int32)) C dX8_why_167 (by decide) ?_
        exact z_sub [1, 2, 3, 4, 5, 6, 0] rfl (w_X8_why_j168 C hQ hrec52 _ _ _ _ _ _ _ _ hm)
      · have hm := zIf hm c22
        refine z_iload C dX8_why_158 0 rfl ?_
        refine z_if_ne (tgt := 167) C dX8_why_160 (by decide) (fun c23 => ?_) (fun c23 => ?_)
        · have hm := zIf hm c23
          refine z_iconst (v := (0 : Int32)) C dX8_why_167 (by decide) ?_
          exact z_sub [1, 2, 3, 4, 5, 6, 0] rfl (w_X8_why_j168 C hQ hrec52 _ _ _ _ _ _ _ _ hm)
        · have hm := zIt hm c23
          refine z_iconst (v := (1 : Int32)) C dX8_why_163 (by decide) ?_
          refine z_goto (tgt := 168) C dX8_why_164 (by decide) ?_
          exact z_sub [1, 2, 3, 4, 5, 6, 0] rfl (w_X8_why_j168 C hQ hrec52 _ _ _ _ _ _ _ _ hm)
set_option maxRecDepth 100000 in
set_option maxHeartbeats 4000000 in
theorem w_X8_why_j100 {h : zH} {ad : Nat → Nat} {G : zG} (C : zC h ad zLM 11 G cX8_why RX8 wsX8_why 6 148) {n : Nat} {r : Int32} {s9 : zS} (hQ : zQ h ad zLM G false (.inl r) s9 (some .int)) {rec52 : Int32 → Int32 → Int32 → Int32 → zS → Option (Int32 × zS)} (hrec52 : ∀ (v2 : Int32) (v3 : Int32) (v4 : Int32) (v5 : Int32) (s : zS), rec52 v2 v3 v4 v5 s = some (r, s9) → zV h ad zLM 11 G s 52 [(0, .ref (ad 0)), (2, .int v2), (3, .int v3), (4, .int v4), (5, .int v5)] []) (v2 : Int32) (v3 : Int32) (v4 : Int32) (v5 : Int32) (v6 : Int32) (v7 : Int32) (t0 : Int32) (s : zS) (hm : m_X8_why_j100 rec52 n v2 v3 v4 v5 v6 v7 t0 s = some (r, s9)) : zV h ad zLM 11 G s 100 [(0, .ref (ad 0)), (2, .int v2), (3, .int v3), (4, .int v4), (5, .int v5), (6, .int v6), (7, .int v7)] [.int t0] := by
  rw [m_X8_why_j100] at hm
  refine z_istore (y := t0) (lv' := [(8, .int t0), (0, .ref (ad 0)), (2, .int v2), (3, .int v3), (4, .int v4), (5, .int v5), (6, .int v6), (7, .int v7)]) C dX8_why_100 (by decide) rfl rfl ?_
  refine z_iload C dX8_why_102 7 rfl ?_
  refine z_if_eq (tgt := 138) C dX8_why_104 (by decide) (fun c24 => ?_) (fun c24 => ?_)
  · have hm := zIt hm c24
    refine z_iconst (v := (0 : Int32)) C dX8_why_138 (by decide) ?_
    exact z_sub [1, 2, 3, 4, 5, 6, 7, 0] rfl (w_X8_why_j139 C hQ hrec52 _ _ _ _ _ _ _ _ _ hm)
  · have hm := zIf hm c24
    refine z_iload C dX8_why_107 0 rfl ?_
    refine z_if_eq (tgt := 134) C dX8_why_109 (by decide) (fun c25 => ?_) (fun c25 => ?_)
    · have hm := zIt hm c25
      refine z_iconst (v := (1 : Int32)) C dX8_why_134 (by decide) ?_
      refine z_goto (tgt := 139) C dX8_why_135 (by decide) ?_
      exact z_sub [1, 2, 3, 4, 5, 6, 7, 0] rfl (w_X8_why_j139 C hQ hrec52 _ _ _ _ _ _ _ _ _ hm)
    · have hm := zIf hm c25
      refine z_aload_n C dX8_why_112 rfl 1 rfl ?_
      refine z_getr C kM0 vc8 eX8_why_uX8 14 (by decide) rfl eX8_why_f40 rfl dX8_why_113 ?_
      refine z_aload_n C dX8_why_116 rfl 1 rfl ?_
      refine z_getr C kM0 vc8 eX8_why_uX8 1 (by decide) rfl eX8_why_f13 rfl dX8_why_117 ?_
      refine z_iload C dX8_why_120 6 rfl ?_
      obtain ⟨x26, i_x26, e_x26, hm⟩ := zRd_of hm
      refine z_iald C kM2 i_x26 e_x26 dX8_why_122 ?_
      obtain ⟨x27, i_x27, e_x27, hm⟩ := zRd_of hm
      refine z_iald C kM11 i_x27 e_x27 dX8_why_123 ?_
      refine z_aload_n C dX8_why_124 rfl 1 rfl ?_
      refine z_getr C kM0 vc8 eX8_why_uX8 14 (by decide) rfl eX8_why_f40 rfl dX8_why_125 ?_
      refine z_iload C dX8_why_128 6 rfl ?_
      obtain ⟨x28, i_x28, e_x28, hm⟩ := zRd_of hm
      refine z_iald C kM11 i_x28 e_x28 dX8_why_130 ?_
      refine z_icmp_ne (tgt := 138) C dX8_why_131 (by decide) (fun c29 => ?_) (fun c29 => ?_)
      · have hm := zIf hm c29
        refine z_iconst (v := (0 : Int32)) C dX8_why_138 (by decide) ?_
        exact z_sub [1, 2, 3, 4, 5, 6, 7, 0] rfl (w_X8_why_j139 C hQ hrec52 _ _ _ _ _ _ _ _ _ hm)
      · have hm := zIt hm c29
        refine z_iconst (v := (1 : Int32)) C dX8_why_134 (by decide) ?_
        refine z_goto (tgt := 139) C dX8_why_135 (by decide) ?_
        exact z_sub [1, 2, 3, 4, 5, 6, 7, 0] rfl (w_X8_why_j139 C hQ hrec52 _ _ _ _ _ _ _ _ _ hm)
set_option maxRecDepth 100000 in
set_option maxHeartbeats 4000000 in
theorem w_X8_why_j52 {h : zH} {ad : Nat → Nat} {G : zG} (C : zC h ad zLM 11 G cX8_why RX8 wsX8_why 6 148) {n : Nat} {r : Int32} {s9 : zS} (hQ : zQ h ad zLM G false (.inl r) s9 (some .int)) : ∀ (f : Nat) (v2 : Int32) (v3 : Int32) (v4 : Int32) (v5 : Int32) (s : zS), m_X8_why_j52 n f v2 v3 v4 v5 s = some (r, s9) → zV h ad zLM 11 G s 52 [(0, .ref (ad 0)), (2, .int v2), (3, .int v3), (4, .int v4), (5, .int v5)] [] := by
  intro f
  induction f with
  | zero => intro v2 v3 v4 v5 s hm; simp [m_X8_why_j52] at hm
  | succ f ih =>
    intro v2 v3 v4 v5 s hm
    rw [m_X8_why_j52] at hm
    refine z_iload C dX8_why_52 4 rfl ?_
    refine z_iload_n C dX8_why_54 rfl 2 rfl ?_
    refine z_icmp_ge (tgt := 276) C dX8_why_55 (by decide) (fun c30 => ?_) (fun c30 => ?_)
    · have hm := zIt hm c30
      refine z_iload_n C dX8_why_276 rfl 1 rfl ?_
      refine z_iload_n C dX8_why_277 rfl 2 rfl ?_
      refine z_icmp_ge (tgt := 290) C dX8_why_278 (by decide) (fun c31 => ?_) (fun c31 => ?_)
      · have hm := zIt hm c31
        refine z_iconst (v := (-1 : Int32)) C dX8_why_290 (by decide) ?_
        exact z_iret0 C hQ (zRt_of hm).1 (zRt_of hm).2 dX8_why_291
      · have hm := zIf hm c31
        refine z_aload_n C dX8_why_281 rfl 0 rfl ?_
        refine z_getr C kM0 vc8 eX8_why_uX8 18 (by decide) rfl eX8_why_f53 rfl dX8_why_282 ?_
        refine z_iload_n C dX8_why_285 rfl 1 rfl ?_
        obtain ⟨x32, i_x32, e_x32, hm⟩ := zRd_of hm
        refine z_iald C kM15 i_x32 e_x32 dX8_why_286 ?_
        refine z_goto (tgt := 291) C dX8_why_287 (by decide) ?_
        exact z_iret0 C hQ (zRt_of hm).1 (zRt_of hm).2 dX8_why_291
    · have hm := zIf hm c30
      refine z_aload_n C dX8_why_58 rfl 0 rfl ?_
      refine z_getr C kM0 vc8 eX8_why_uX8 18 (by decide) rfl eX8_why_f53 rfl dX8_why_59 ?_
      refine z_iload C dX8_why_62 4 rfl ?_
      obtain ⟨x33, i_x33, e_x33, hm⟩ := zRd_of hm
      refine z_iald C kM15 i_x33 e_x33 dX8_why_64 ?_
      refine z_istore (y := x33) (lv' := [(6, .int x33), (0, .ref (ad 0)), (2, .int v2), (3, .int v3), (4, .int v4), (5, .int v5)]) C dX8_why_65 (by decide) rfl rfl ?_
      refine z_aload_n C dX8_why_67 rfl 1 rfl ?_
      refine z_getr C kM0 vc8 eX8_why_uX8 0 (by decide) rfl eX8_why_f7 rfl dX8_why_68 ?_
      refine z_iload C dX8_why_71 0 rfl ?_
      obtain ⟨x34, i_x34, e_x34, hm⟩ := zRd_of hm
      refine z_iald C kM1 i_x34 e_x34 dX8_why_73 ?_
      refine z_istore (y := x34) (lv' := [(7, .int x34), (6, .int x33), (0, .ref (ad 0)), (2, .int v2), (3, .int v3), (4, .int v4), (5, .int v5)]) C dX8_why_74 (by decide) rfl rfl ?_
      refine z_iload C dX8_why_76 0 rfl ?_
      refine z_iconst (v := (4 : Int32)) C dX8_why_78 (by decide) ?_
      refine z_icmp_eq (tgt := 95) C dX8_why_79 (by decide) (fun c35 => ?_) (fun c35 => ?_)
      · have hm := zIt hm c35
        refine z_iconst (v := (1 : Int32)) C dX8_why_95 (by decide) ?_
        refine z_goto (tgt := 100) C dX8_why_96 (by decide) ?_
        exact z_sub [2, 3, 4, 5, 6, 1, 0] rfl (w_X8_why_j100 C hQ ih _ _ _ _ _ _ _ _ hm)
      · have hm := zIf hm c35
        refine z_iload C dX8_why_82 0 rfl ?_
        refine z_iconst (v := (5 : Int32)) C dX8_why_84 (by decide) ?_
        refine z_icmp_eq (tgt := 95) C dX8_why_85 (by decide) (fun c36 => ?_) (fun c36 => ?_)
        · have hm := zIt hm c36
          refine z_iconst (v := (1 : Int32)) C dX8_why_95 (by decide) ?_
          refine z_goto (tgt := 100) C dX8_why_96 (by decide) ?_
          exact z_sub [2, 3, 4, 5, 6, 1, 0] rfl (w_X8_why_j100 C hQ ih _ _ _ _ _ _ _ _ hm)
        · have hm := zIf hm c36
          refine z_iload C dX8_why_88 0 rfl ?_
          refine z_bipush (v := (8 : Int32)) C dX8_why_90 (by decide) ?_
          refine z_icmp_ne (tgt := 99) C dX8_why_92 (by decide) (fun c37 => ?_) (fun c37 => ?_)
          · have hm := zIf hm c37
            refine z_iconst (v := (0 : Int32)) C dX8_why_99 (by decide) ?_
            exact z_sub [2, 3, 4, 5, 6, 1, 0] rfl (w_X8_why_j100 C hQ ih _ _ _ _ _ _ _ _ hm)
          · have hm := zIt hm c37
            refine z_iconst (v := (1 : Int32)) C dX8_why_95 (by decide) ?_
            refine z_goto (tgt := 100) C dX8_why_96 (by decide) ?_
            exact z_sub [2, 3, 4, 5, 6, 1, 0] rfl (w_X8_why_j100 C hQ ih _ _ _ _ _ _ _ _ hm)
set_option maxRecDepth 100000 in
set_option maxHeartbeats 4000000 in
theorem w_X8_why_j17 {h : zH} {ad : Nat → Nat} {G : zG} (C : zC h ad zLM 11 G cX8_why RX8 wsX8_why 6 148) {n : Nat} {r : Int32} {s9 : zS} (hQ : zQ h ad zLM G false (.inl r) s9 (some .int)) (v1 : Int32) (v2 : Int32) (t1 : Int32) (s : zS) (hm : m_X8_why_j17 n v1 v2 t1 s = some (r, s9)) : zV h ad zLM 11 G s 17 [(0, .ref (ad 0)), (1, .int v1), (2, .int v2)] [.int t1, .ref (ad 0)] := by
  rw [m_X8_why_j17] at hm
  obtain ⟨s38, e_s38, hm⟩ := zLt_of hm
  refine z_put C kM0 vc8 eX8_why_uX8 tyX8_ok nmX8 23 (by decide) rfl eX8_why_f65 rfl rfl rfl e_s38 dX8_why_17 ?_
  refine z_aload_n C dX8_why_20 rfl 0 rfl ?_
  refine z_get C kM0 vc8 eX8_why_uX8 23 (by decide) rfl eX8_why_f65 rfl dX8_why_21 ?_
  refine z_if_le (tgt := 29) C dX8_why_24 (by decide) (fun c39 => ?_) (fun c39 => ?_)
  · have hm := zIt hm c39
    refine z_aload_n C dX8_why_29 rfl 0 rfl ?_
    refine z_iconst (v := (-1 : Int32)) C dX8_why_30 (by decide) ?_
    refine z_iconst (v := (0 : Int32)) C dX8_why_31 (by decide) ?_
    obtain ⟨x40, s41, q_s41, hm⟩ := zBd_of hm
    refine z_cV (vd := true) (Cn := RX8) (k := 0) C 2 [.int (-1 : Int32), .int (0 : Int32)] [] (c_X8_solves (zC_I C) (zC_st C)  q_s41) gX8_why_X8_solves (by decide +kernel) kM0 vc8 rfl rfl dX8_why_32 rfl ⟨Nat.le_of_ble_eq_true rfl, Nat.le_of_ble_eq_true rfl⟩ rfl (Nat.le_of_ble_eq_true rfl) ?_
    refine z_aload_n C dX8_why_35 rfl 0 rfl ?_
    refine z_getr C kM0 vc8 eX8_why_uX8 18 (by decide) rfl eX8_why_f53 rfl dX8_why_36 ?_
    refine z_iconst (v := (0 : Int32)) C dX8_why_39 (by decide) ?_
    refine z_iload_n C dX8_why_40 rfl 1 rfl ?_
    obtain ⟨s42, i_s42, e_s42, hm⟩ := zWr_of hm
    refine z_iast C kM15 i_s42 e_s42 dX8_why_41 ?_
    refine z_iconst (v := (1 : Int32)) C dX8_why_42 (by decide) ?_
    refine z_istore_n (y := (1 : Int32)) (lv' := [(3, .int (1 : Int32)), (0, .ref (ad 0)), (1, .int v1), (2, .int v2)]) C dX8_why_43 rfl (by decide) rfl rfl ?_
    refine z_iconst (v := (1 : Int32)) C dX8_why_44 (by decide) ?_
    refine z_iload_n C dX8_why_45 rfl 2 rfl ?_
    refine z_ishl C dX8_why_46 ?_
    obtain ⟨x43, e_x43, hm⟩ := zLt_of hm
    refine z_istore (y := x43) (lv' := [(4, .int x43), (3, .int (1 : Int32)), (0, .ref (ad 0)), (1, .int v1), (2, .int v2)]) C dX8_why_47 (by decide) e_x43 rfl ?_
    refine z_iconst (v := (0 : Int32)) C dX8_why_49 (by decide) ?_
    refine z_istore (y := (0 : Int32)) (lv' := [(5, .int (0 : Int32)), (4, .int x43), (3, .int (1 : Int32)), (0, .ref (ad 0)), (1, .int v1), (2, .int v2)]) C dX8_why_50 (by decide) rfl rfl ?_
    exact z_sub [3, 5, 2, 1, 0] rfl (w_X8_why_j52 C hQ  _ _ _ _ _ _ hm)
  · have hm := zIf hm c39
    refine z_iconst (v := (0 : Int32)) C dX8_why_27 (by decide) ?_
    exact z_iret0 C hQ (zRt_of hm).1 (zRt_of hm).2 dX8_why_28
set_option maxRecDepth 100000 in
set_option maxHeartbeats 4000000 in
theorem w_X8_why_e {h : zH} {ad : Nat → Nat} {G : zG} (C : zC h ad zLM 11 G cX8_why RX8 wsX8_why 6 148) {n : Nat} {r : Int32} {s9 : zS} (hQ : zQ h ad zLM G false (.inl r) s9 (some .int)) {v1 : Int32} {v2 : Int32} (s : zS) (hm : m_X8_why n v1 v2 s = some (r, s9)) : zV h ad zLM 11 G s 0 [(0, .ref (ad 0)), (1, .int v1), (2, .int v2)] [] := by
  rw [m_X8_why] at hm
  refine z_aload_n C dX8_why_0 rfl 0 rfl ?_
  refine z_iload_n C dX8_why_1 rfl 1 rfl ?_
  obtain ⟨x44, s45, q_s45, hm⟩ := zBd_of hm
  refine z_cS (vd := false) C 1 [.int v1] [.ref (ad 0)] (c_X8_isLine (zC_I C) (zC_st C)  q_s45) gX8_why_X8_isLine (by decide +kernel) rfl dX8_why_2 rfl ⟨Nat.le_of_ble_eq_true rfl, Nat.le_of_ble_eq_true rfl⟩ rfl (Nat.le_of_ble_eq_true rfl) ?_
  refine z_if_eq (tgt := 16) C dX8_why_5 (by decide) (fun c46 => ?_) (fun c46 => ?_)
  · have hm := zIt hm c46
    refine z_iconst (v := (1 : Int32)) C dX8_why_16 (by decide) ?_
    exact z_sub [0, 1, 2] rfl (w_X8_why_j17 C hQ  _ _ _ _ hm)
  · have hm := zIf hm c46
    refine z_iload_n C dX8_why_8 rfl 2 rfl ?_
    refine z_if_lt (tgt := 16) C dX8_why_9 (by decide) (fun c47 => ?_) (fun c47 => ?_)
    · have hm := zIt hm c47
      refine z_iconst (v := (1 : Int32)) C dX8_why_16 (by decide) ?_
      exact z_sub [0, 1, 2] rfl (w_X8_why_j17 C hQ  _ _ _ _ hm)
    · have hm := zIf hm c47
      refine z_iconst (v := (0 : Int32)) C dX8_why_12 (by decide) ?_
      refine z_goto (tgt := 17) C dX8_why_13 (by decide) ?_
      exact z_sub [0, 1, 2] rfl (w_X8_why_j17 C hQ  _ _ _ _ hm)
set_option maxRecDepth 100000 in
set_option maxHeartbeats 4000000 in
theorem c_X8_why {h : zH} {ad : Nat → Nat} (hI : zI ad zLM.length) (hst : h.1.stackTraces = false) {n : Nat} {v1 : Int32} {v2 : Int32} {s s9 : zS} {r : Int32} (hm : m_X8_why n v1 v2 s = some (r, s9)) : zMR h ad zLM false yX8_why wsX8_why 6 148 [.ref (ad 0), .int v1, .int v2] s (.inl r) s9 :=
  z_start (cc := cX8_why) (nL := 11) (ret := (some .int)) (own := RX8) (by decide +kernel) rfl rfl hI hst (Nat.le_of_ble_eq_true rfl) (fun G C hQ => w_X8_why_e C hQ _ hm)
set_option maxRecDepth 100000 in
theorem eX8_bracket_uX8 : ∀ w ∈ wsX80, w ∈ wsX8_bracket := by decide +kernel
set_option maxRecDepth 100000 in
theorem eX8_bracket_f65 : Cond.fieldLink RX8 65 RX8 (TX8 23).2.1 (TX8 23).2.2.1 ∈ wsX8_bracket := by decide +kernel
set_option maxRecDepth 100000 in
theorem eX8_bracket_f22 : Cond.fieldLink RX8 22 RX8 (TX8 5).2.1 (TX8 5).2.2.1 ∈ wsX8_bracket := by decide +kernel
set_option maxRecDepth 100000 in
theorem eX8_bracket_f25 : Cond.fieldLink RX8 25 RX8 (TX8 6).2.1 (TX8 6).2.2.1 ∈ wsX8_bracket := by decide +kernel
set_option maxRecDepth 100000 in
theorem eX8_bracket_f106 : Cond.fieldLink RX8 106 RX8 (TX8 4).2.1 (TX8 4).2.2.1 ∈ wsX8_bracket := by decide +kernel
set_option maxRecDepth 100000 in
theorem eX8_bracket_c105 : Cond.constant RX8 105 (1000000 : Int32) ∈ wsX8_bracket := by decide +kernel
set_option maxRecDepth 100000 in
set_option maxHeartbeats 4000000 in
theorem w_X8_bracket_j91 {h : zH} {ad : Nat → Nat} {G : zG} (C : zC h ad zLM 5 G cX8_bracket RX8 wsX8_bracket 1 22) {n : Nat} {r : Int32} {s9 : zS} (hQ : zQ h ad zLM G false (.inl r) s9 (some .int)) (v1 : Int32) (v2 : Int32) (v3 : Int32) (t1 : Int32) (s : zS) (hm : m_X8_bracket_j91 n v1 v2 v3 t1 s = some (r, s9)) : zV h ad zLM 5 G s 91 [(0, .ref (ad 0)), (1, .int v1), (2, .int v2), (3, .int v3)] [.int t1, .ref (ad 0)] := by
  rw [m_X8_bracket_j91] at hm
  obtain ⟨s1, e_s1, hm⟩ := zLt_of hm
  refine z_put C kM0 vc8 eX8_bracket_uX8 tyX8_ok nmX8 23 (by decide) rfl eX8_bracket_f65 rfl rfl rfl e_s1 dX8_bracket_91 ?_
  refine z_aload_n C dX8_bracket_94 rfl 0 rfl ?_
  refine z_get C kM0 vc8 eX8_bracket_uX8 23 (by decide) rfl eX8_bracket_f65 rfl dX8_bracket_95 ?_
  refine z_if_le (tgt := 103) C dX8_bracket_98 (by decide) (fun c2 => ?_) (fun c2 => ?_)
  · have hm := zIt hm c2
    refine z_aload_n C dX8_bracket_103 rfl 0 rfl ?_
    refine z_getr C kM0 vc8 eX8_bracket_uX8 5 (by decide) rfl eX8_bracket_f22 rfl dX8_bracket_104 ?_
    refine z_iload_n C dX8_bracket_107 rfl 3 rfl ?_
    refine z_iload_n C dX8_bracket_108 rfl 1 rfl ?_
    obtain ⟨s3, i_s3, e_s3, hm⟩ := zWr_of hm
    refine z_iast C kM5 i_s3 e_s3 dX8_bracket_109 ?_
    refine z_aload_n C dX8_bracket_110 rfl 0 rfl ?_
    refine z_getr C kM0 vc8 eX8_bracket_uX8 6 (by decide) rfl eX8_bracket_f25 rfl dX8_bracket_111 ?_
    refine z_iload_n C dX8_bracket_114 rfl 3 rfl ?_
    refine z_iload_n C dX8_bracket_115 rfl 2 rfl ?_
    obtain ⟨s4, i_s4, e_s4, hm⟩ := zWr_of hm
    refine z_iast C kM6 i_s4 e_s4 dX8_bracket_116 ?_
    refine z_aload_n C dX8_bracket_117 rfl 0 rfl ?_
    refine z_dup C dX8_bracket_118 rfl ?_
    refine z_get C kM0 vc8 eX8_bracket_uX8 4 (by decide) rfl eX8_bracket_f106 rfl dX8_bracket_119 ?_
    refine z_iload_n C dX8_bracket_122 rfl 3 rfl ?_
    refine z_aload_n C dX8_bracket_123 rfl 0 rfl ?_
    refine z_get C kM0 vc8 eX8_bracket_uX8 4 (by decide) rfl eX8_bracket_f106 rfl dX8_bracket_124 ?_
    refine z_icmp_ne (tgt := 134) C dX8_bracket_127 (by decide) (fun c5 => ?_) (fun c5 => ?_)
    · have hm := zIf hm c5
      refine z_iconst (v := (0 : Int32)) C dX8_bracket_134 (by decide) ?_
      refine z_iadd C dX8_bracket_135 ?_
      obtain ⟨s6, e_s6, hm⟩ := zLt_of hm
      refine z_put C kM0 vc8 eX8_bracket_uX8 tyX8_ok nmX8 4 (by decide) rfl eX8_bracket_f106 rfl rfl rfl e_s6 dX8_bracket_136 ?_
      refine z_aload_n C dX8_bracket_139 rfl 0 rfl ?_
      refine z_get C kM0 vc8 eX8_bracket_uX8 4 (by decide) rfl eX8_bracket_f106 rfl dX8_bracket_140 ?_
      exact z_iret0 C hQ (zRt_of hm).1 (zRt_of hm).2 dX8_bracket_143
    · have hm := zIt hm c5
      refine z_iconst (v := (1 : Int32)) C dX8_bracket_130 (by decide) ?_
      refine z_goto (tgt := 135) C dX8_bracket_131 (by decide) ?_
      refine z_iadd C dX8_bracket_135 ?_
      obtain ⟨s7, e_s7, hm⟩ := zLt_of hm
      refine z_put C kM0 vc8 eX8_bracket_uX8 tyX8_ok nmX8 4 (by decide) rfl eX8_bracket_f106 rfl rfl rfl e_s7 dX8_bracket_136 ?_
      refine z_aload_n C dX8_bracket_139 rfl 0 rfl ?_
      refine z_get C kM0 vc8 eX8_bracket_uX8 4 (by decide) rfl eX8_bracket_f106 rfl dX8_bracket_140 ?_
      exact z_iret0 C hQ (zRt_of hm).1 (zRt_of hm).2 dX8_bracket_143
  · have hm := zIf hm c2
    refine z_iconst (v := (0 : Int32)) C dX8_bracket_101 (by decide) ?_
    exact z_iret0 C hQ (zRt_of hm).1 (zRt_of hm).2 dX8_bracket_102
set_option maxRecDepth 100000 in
set_option maxHeartbeats 4000000 in
theorem w_X8_bracket_j47 {h : zH} {ad : Nat → Nat} {G : zG} (C : zC h ad zLM 5 G cX8_bracket RX8 wsX8_bracket 1 22) {n : Nat} {r : Int32} {s9 : zS} (hQ : zQ h ad zLM G false (.inl r) s9 (some .int)) : ∀ (f : Nat) (v1 : Int32) (v2 : Int32) (v3 : Int32) (v4 : Int32) (s : zS), m_X8_bracket_j47 n f v1 v2 v3 v4 s = some (r, s9) → zV h ad zLM 5 G s 47 [(0, .ref (ad 0)), (1, .int v1), (2, .int v2), (3, .int v3), (4, .int v4)] [] := by
  intro f
  induction f with
  | zero => intro v1 v2 v3 v4 s hm; simp [m_X8_bracket_j47] at hm
  | succ f ih =>
    intro v1 v2 v3 v4 s hm
    rw [m_X8_bracket_j47] at hm
    refine z_iload C dX8_bracket_47 4 rfl ?_
    refine z_aload_n C dX8_bracket_49 rfl 0 rfl ?_
    refine z_get C kM0 vc8 eX8_bracket_uX8 4 (by decide) rfl eX8_bracket_f106 rfl dX8_bracket_50 ?_
    refine z_icmp_ge (tgt := 80) C dX8_bracket_53 (by decide) (fun c8 => ?_) (fun c8 => ?_)
    · have hm := zIt hm c8
      refine z_aload_n C dX8_bracket_80 rfl 0 rfl ?_
      refine z_iload_n C dX8_bracket_81 rfl 3 rfl ?_
      refine z_iconst (v := (5 : Int32)) C dX8_bracket_82 (by decide) ?_
      refine z_icmp_ne (tgt := 90) C dX8_bracket_83 (by decide) (fun c9 => ?_) (fun c9 => ?_)
      · have hm := zIf hm c9
        refine z_iconst (v := (0 : Int32)) C dX8_bracket_90 (by decide) ?_
        exact z_sub [0, 1, 2, 3] rfl (w_X8_bracket_j91 C hQ  _ _ _ _ _ hm)
      · have hm := zIt hm c9
        refine z_iconst (v := (2 : Int32)) C dX8_bracket_86 (by decide) ?_
        refine z_goto (tgt := 91) C dX8_bracket_87 (by decide) ?_
        exact z_sub [0, 1, 2, 3] rfl (w_X8_bracket_j91 C hQ  _ _ _ _ _ hm)
    · have hm := zIf hm c8
      refine z_aload_n C dX8_bracket_56 rfl 0 rfl ?_
      refine z_getr C kM0 vc8 eX8_bracket_uX8 5 (by decide) rfl eX8_bracket_f22 rfl dX8_bracket_57 ?_
      refine z_iload C dX8_bracket_60 4 rfl ?_
      obtain ⟨x10, i_x10, e_x10, hm⟩ := zRd_of hm
      refine z_iald C kM5 i_x10 e_x10 dX8_bracket_62 ?_
      refine z_iload_n C dX8_bracket_63 rfl 1 rfl ?_
      refine z_icmp_ne (tgt := 72) C dX8_bracket_64 (by decide) (fun c11 => ?_) (fun c11 => ?_)
      · have hm := zIf hm c11
        refine z_iload_n C dX8_bracket_72 rfl 3 rfl ?_
        refine z_istore_n (y := v3) (lv' := [(3, .int v3), (0, .ref (ad 0)), (1, .int v1), (2, .int v2), (4, .int v4)]) C dX8_bracket_73 rfl (by decide) rfl rfl ?_
        obtain ⟨x12, e_x12, hm⟩ := zLt_of hm
        refine z_iinc (j := 4) (v := x12) (d := (1 : Int32)) (lv' := [(4, .int x12), (3, .int v3), (0, .ref (ad 0)), (1, .int v1), (2, .int v2)]) C dX8_bracket_74 rfl (by decide) e_x12 (by decide) rfl ?_
        refine z_goto (tgt := 47) C dX8_bracket_77 (by decide) ?_
        exact z_sub [2, 3, 4, 1, 0] rfl (ih _ _ _ _ _ hm)
      · have hm := zIt hm c11
        refine z_iload C dX8_bracket_67 4 rfl ?_
        refine z_goto (tgt := 73) C dX8_bracket_69 (by decide) ?_
        refine z_istore_n (y := v4) (lv' := [(3, .int v4), (0, .ref (ad 0)), (1, .int v1), (2, .int v2), (4, .int v4)]) C dX8_bracket_73 rfl (by decide) rfl rfl ?_
        obtain ⟨x13, e_x13, hm⟩ := zLt_of hm
        refine z_iinc (j := 4) (v := x13) (d := (1 : Int32)) (lv' := [(4, .int x13), (3, .int v4), (0, .ref (ad 0)), (1, .int v1), (2, .int v2)]) C dX8_bracket_74 rfl (by decide) e_x13 (by decide) rfl ?_
        refine z_goto (tgt := 47) C dX8_bracket_77 (by decide) ?_
        exact z_sub [2, 3, 4, 1, 0] rfl (ih _ _ _ _ _ hm)
set_option maxRecDepth 100000 in
set_option maxHeartbeats 4000000 in
theorem w_X8_bracket_j27 {h : zH} {ad : Nat → Nat} {G : zG} (C : zC h ad zLM 5 G cX8_bracket RX8 wsX8_bracket 1 22) {n : Nat} {r : Int32} {s9 : zS} (hQ : zQ h ad zLM G false (.inl r) s9 (some .int)) (v1 : Int32) (v2 : Int32) (t1 : Int32) (s : zS) (hm : m_X8_bracket_j27 n v1 v2 t1 s = some (r, s9)) : zV h ad zLM 5 G s 27 [(0, .ref (ad 0)), (1, .int v1), (2, .int v2)] [.int t1, .ref (ad 0)] := by
  rw [m_X8_bracket_j27] at hm
  obtain ⟨s14, e_s14, hm⟩ := zLt_of hm
  refine z_put C kM0 vc8 eX8_bracket_uX8 tyX8_ok nmX8 23 (by decide) rfl eX8_bracket_f65 rfl rfl rfl e_s14 dX8_bracket_27 ?_
  refine z_aload_n C dX8_bracket_30 rfl 0 rfl ?_
  refine z_get C kM0 vc8 eX8_bracket_uX8 23 (by decide) rfl eX8_bracket_f65 rfl dX8_bracket_31 ?_
  refine z_if_le (tgt := 39) C dX8_bracket_34 (by decide) (fun c15 => ?_) (fun c15 => ?_)
  · have hm := zIt hm c15
    refine z_aload_n C dX8_bracket_39 rfl 0 rfl ?_
    refine z_get C kM0 vc8 eX8_bracket_uX8 4 (by decide) rfl eX8_bracket_f106 rfl dX8_bracket_40 ?_
    obtain ⟨x16, e_x16, hm⟩ := zLt_of hm
    refine z_istore_n (y := x16) (lv' := [(3, .int x16), (0, .ref (ad 0)), (1, .int v1), (2, .int v2)]) C dX8_bracket_43 rfl (by decide) e_x16 rfl ?_
    refine z_iconst (v := (0 : Int32)) C dX8_bracket_44 (by decide) ?_
    refine z_istore (y := (0 : Int32)) (lv' := [(4, .int (0 : Int32)), (3, .int x16), (0, .ref (ad 0)), (1, .int v1), (2, .int v2)]) C dX8_bracket_45 (by decide) rfl rfl ?_
    exact z_sub [2, 3, 4, 1, 0] rfl (w_X8_bracket_j47 C hQ  _ _ _ _ _ _ hm)
  · have hm := zIf hm c15
    refine z_iconst (v := (0 : Int32)) C dX8_bracket_37 (by decide) ?_
    exact z_iret0 C hQ (zRt_of hm).1 (zRt_of hm).2 dX8_bracket_38
set_option maxRecDepth 100000 in
set_option maxHeartbeats 4000000 in
theorem w_X8_bracket_e {h : zH} {ad : Nat → Nat} {G : zG} (C : zC h ad zLM 5 G cX8_bracket RX8 wsX8_bracket 1 22) {n : Nat} {r : Int32} {s9 : zS} (hQ : zQ h ad zLM G false (.inl r) s9 (some .int)) {v1 : Int32} {v2 : Int32} (s : zS) (hm : m_X8_bracket n v1 v2 s = some (r, s9)) : zV h ad zLM 5 G s 0 [(0, .ref (ad 0)), (1, .int v1), (2, .int v2)] [] := by
  rw [m_X8_bracket] at hm
  refine z_aload_n C dX8_bracket_0 rfl 0 rfl ?_
  refine z_iload_n C dX8_bracket_1 rfl 1 rfl ?_
  refine z_iconst (v := (0 : Int32)) C dX8_bracket_2 (by decide) ?_
  refine z_ldc (v := (1000000 : Int32)) C eX8_bracket_c105 dX8_bracket_3 ?_
  obtain ⟨x17, s18, q_s18, hm⟩ := zBd_of hm
  refine z_cS (vd := false) C 3 [.int v1, .int (0 : Int32), .int (1000000 : Int32)] [.ref (ad 0)] (c_X8_isIn (zC_I C) (zC_st C)  q_s18) gX8_bracket_X8_isIn (by decide +kernel) rfl dX8_bracket_5 rfl ⟨Nat.le_of_ble_eq_true rfl, Nat.le_of_ble_eq_true rfl⟩ rfl (Nat.le_of_ble_eq_true rfl) ?_
  refine z_if_eq (tgt := 26) C dX8_bracket_8 (by decide) (fun c19 => ?_) (fun c19 => ?_)
  · have hm := zIt hm c19
    refine z_iconst (v := (1 : Int32)) C dX8_bracket_26 (by decide) ?_
    exact z_sub [0, 1, 2] rfl (w_X8_bracket_j27 C hQ  _ _ _ _ hm)
  · have hm := zIf hm c19
    refine z_iload_n C dX8_bracket_11 rfl 2 rfl ?_
    refine z_iconst (v := (0 : Int32)) C dX8_bracket_12 (by decide) ?_
    refine z_sipush (v := (1000 : Int32)) C dX8_bracket_13 (by decide) ?_
    obtain ⟨x20, s21, q_s21, hm⟩ := zBd_of hm
    refine z_cS (vd := false) C 3 [.int v2, .int (0 : Int32), .int (1000 : Int32)] [.ref (ad 0)] (c_X8_isIn (zC_I C) (zC_st C)  q_s21) gX8_bracket_X8_isIn (by decide +kernel) rfl dX8_bracket_16 rfl ⟨Nat.le_of_ble_eq_true rfl, Nat.le_of_ble_eq_true rfl⟩ rfl (Nat.le_of_ble_eq_true rfl) ?_
    refine z_if_eq (tgt := 26) C dX8_bracket_19 (by decide) (fun c22 => ?_) (fun c22 => ?_)
    · have hm := zIt hm c22
      refine z_iconst (v := (1 : Int32)) C dX8_bracket_26 (by decide) ?_
      exact z_sub [0, 1, 2] rfl (w_X8_bracket_j27 C hQ  _ _ _ _ hm)
    · have hm := zIf hm c22
      refine z_iconst (v := (0 : Int32)) C dX8_bracket_22 (by decide) ?_
      refine z_goto (tgt := 27) C dX8_bracket_23 (by decide) ?_
      exact z_sub [0, 1, 2] rfl (w_X8_bracket_j27 C hQ  _ _ _ _ hm)
set_option maxRecDepth 100000 in
set_option maxHeartbeats 4000000 in
theorem c_X8_bracket {h : zH} {ad : Nat → Nat} (hI : zI ad zLM.length) (hst : h.1.stackTraces = false) {n : Nat} {v1 : Int32} {v2 : Int32} {s s9 : zS} {r : Int32} (hm : m_X8_bracket n v1 v2 s = some (r, s9)) : zMR h ad zLM false yX8_bracket wsX8_bracket 1 22 [.ref (ad 0), .int v1, .int v2] s (.inl r) s9 :=
  z_start (cc := cX8_bracket) (nL := 5) (ret := (some .int)) (own := RX8) (by decide +kernel) rfl rfl hI hst (Nat.le_of_ble_eq_true rfl) (fun G C hQ => w_X8_bracket_e C hQ _ hm)
set_option maxRecDepth 100000 in
theorem eX8_dropBrackets_uX8 : ∀ w ∈ wsX80, w ∈ wsX8_dropBrackets := by decide +kernel
set_option maxRecDepth 100000 in
theorem eX8_dropBrackets_f65 : Cond.fieldLink RX8 65 RX8 (TX8 23).2.1 (TX8 23).2.2.1 ∈ wsX8_dropBrackets := by decide +kernel
set_option maxRecDepth 100000 in
theorem eX8_dropBrackets_f106 : Cond.fieldLink RX8 106 RX8 (TX8 4).2.1 (TX8 4).2.2.1 ∈ wsX8_dropBrackets := by decide +kernel
set_option maxRecDepth 100000 in
set_option maxHeartbeats 4000000 in
theorem w_X8_dropBrackets_e {h : zH} {ad : Nat → Nat} {G : zG} (C : zC h ad zLM 2 G cX8_dropBrackets RX8 wsX8_dropBrackets 0 0) {n : Nat} {r : Int32} {s9 : zS} (hQ : zQ h ad zLM G false (.inl r) s9 (some .int))  (s : zS) (hm : m_X8_dropBrackets n s = some (r, s9)) : zV h ad zLM 2 G s 0 [(0, .ref (ad 0))] [] := by
  rw [m_X8_dropBrackets] at hm
  refine z_aload_n C dX8_dropBrackets_0 rfl 0 rfl ?_
  refine z_iconst (v := (0 : Int32)) C dX8_dropBrackets_1 (by decide) ?_
  obtain ⟨s1, e_s1, hm⟩ := zLt_of hm
  refine z_put C kM0 vc8 eX8_dropBrackets_uX8 tyX8_ok nmX8 23 (by decide) rfl eX8_dropBrackets_f65 rfl rfl rfl e_s1 dX8_dropBrackets_2 ?_
  refine z_aload_n C dX8_dropBrackets_5 rfl 0 rfl ?_
  refine z_get C kM0 vc8 eX8_dropBrackets_uX8 4 (by decide) rfl eX8_dropBrackets_f106 rfl dX8_dropBrackets_6 ?_
  obtain ⟨x2, e_x2, hm⟩ := zLt_of hm
  refine z_istore_n (y := x2) (lv' := [(1, .int x2), (0, .ref (ad 0))]) C dX8_dropBrackets_9 rfl (by decide) e_x2 rfl ?_
  refine z_aload_n C dX8_dropBrackets_10 rfl 1 rfl ?_
  refine z_iconst (v := (0 : Int32)) C dX8_dropBrackets_11 (by decide) ?_
  obtain ⟨s3, e_s3, hm⟩ := zLt_of hm
  refine z_put C kM0 vc8 eX8_dropBrackets_uX8 tyX8_ok nmX8 4 (by decide) rfl eX8_dropBrackets_f106 rfl rfl rfl e_s3 dX8_dropBrackets_12 ?_
  refine z_iload_n C dX8_dropBrackets_15 rfl 0 rfl ?_
  exact z_iret0 C hQ (zRt_of hm).1 (zRt_of hm).2 dX8_dropBrackets_16
set_option maxRecDepth 100000 in
set_option maxHeartbeats 4000000 in
theorem c_X8_dropBrackets {h : zH} {ad : Nat → Nat} (hI : zI ad zLM.length) (hst : h.1.stackTraces = false) {n : Nat} {s s9 : zS} {r : Int32} (hm : m_X8_dropBrackets n s = some (r, s9)) : zMR h ad zLM false yX8_dropBrackets wsX8_dropBrackets 0 0 [.ref (ad 0)] s (.inl r) s9 :=
  z_start (cc := cX8_dropBrackets) (nL := 2) (ret := (some .int)) (own := RX8) (by decide +kernel) rfl rfl hI hst (Nat.le_of_ble_eq_true rfl) (fun G C hQ => w_X8_dropBrackets_e C hQ _ hm)
set_option maxRecDepth 100000 in
theorem eX8_taxOn_uX8 : ∀ w ∈ wsX80, w ∈ wsX8_taxOn := by decide +kernel
set_option maxRecDepth 100000 in
theorem eX8_taxOn_f65 : Cond.fieldLink RX8 65 RX8 (TX8 23).2.1 (TX8 23).2.2.1 ∈ wsX8_taxOn := by decide +kernel
set_option maxRecDepth 100000 in
theorem eX8_taxOn_c109 : Cond.constant RX8 109 (1000000000 : Int32) ∈ wsX8_taxOn := by decide +kernel
set_option maxRecDepth 100000 in
set_option maxHeartbeats 4000000 in
theorem w_X8_taxOn_j16 {h : zH} {ad : Nat → Nat} {G : zG} (C : zC h ad zLM 2 G cX8_taxOn RX8 wsX8_taxOn 1 27) {n : Nat} {r : Int32} {s9 : zS} (hQ : zQ h ad zLM G false (.inl r) s9 (some .int)) (v1 : Int32) (t1 : Int32) (s : zS) (hm : m_X8_taxOn_j16 n v1 t1 s = some (r, s9)) : zV h ad zLM 2 G s 16 [(0, .ref (ad 0)), (1, .int v1)] [.int t1, .ref (ad 0)] := by
  rw [m_X8_taxOn_j16] at hm
  obtain ⟨s1, e_s1, hm⟩ := zLt_of hm
  refine z_put C kM0 vc8 eX8_taxOn_uX8 tyX8_ok nmX8 23 (by decide) rfl eX8_taxOn_f65 rfl rfl rfl e_s1 dX8_taxOn_16 ?_
  refine z_aload_n C dX8_taxOn_19 rfl 0 rfl ?_
  refine z_get C kM0 vc8 eX8_taxOn_uX8 23 (by decide) rfl eX8_taxOn_f65 rfl dX8_taxOn_20 ?_
  refine z_if_le (tgt := 30) C dX8_taxOn_23 (by decide) (fun c2 => ?_) (fun c2 => ?_)
  · have hm := zIt hm c2
    refine z_aload_n C dX8_taxOn_30 rfl 0 rfl ?_
    refine z_iload_n C dX8_taxOn_31 rfl 1 rfl ?_
    obtain ⟨x3, s4, q_s4, hm⟩ := zBd_of hm
    refine z_cV (vd := false) (Cn := RX8) (k := 0) C 1 [.int v1] [] (c_X8_taxed (zC_I C) (zC_st C)  q_s4) gX8_taxOn_X8_taxed (by decide +kernel) kM0 vc8 rfl rfl dX8_taxOn_32 rfl ⟨Nat.le_of_ble_eq_true rfl, Nat.le_of_ble_eq_true rfl⟩ rfl (Nat.le_of_ble_eq_true rfl) ?_
    exact z_iret0 C hQ (zRt_of hm).1 (zRt_of hm).2 dX8_taxOn_35
  · have hm := zIf hm c2
    refine z_iconst (v := (0 : Int32)) C dX8_taxOn_26 (by decide) ?_
    refine z_goto (tgt := 35) C dX8_taxOn_27 (by decide) ?_
    exact z_iret0 C hQ (zRt_of hm).1 (zRt_of hm).2 dX8_taxOn_35
set_option maxRecDepth 100000 in
set_option maxHeartbeats 4000000 in
theorem w_X8_taxOn_e {h : zH} {ad : Nat → Nat} {G : zG} (C : zC h ad zLM 2 G cX8_taxOn RX8 wsX8_taxOn 1 27) {n : Nat} {r : Int32} {s9 : zS} (hQ : zQ h ad zLM G false (.inl r) s9 (some .int)) {v1 : Int32} (s : zS) (hm : m_X8_taxOn n v1 s = some (r, s9)) : zV h ad zLM 2 G s 0 [(0, .ref (ad 0)), (1, .int v1)] [] := by
  rw [m_X8_taxOn] at hm
  refine z_aload_n C dX8_taxOn_0 rfl 0 rfl ?_
  refine z_iload_n C dX8_taxOn_1 rfl 1 rfl ?_
  refine z_iconst (v := (0 : Int32)) C dX8_taxOn_2 (by decide) ?_
  refine z_ldc (v := (1000000000 : Int32)) C eX8_taxOn_c109 dX8_taxOn_3 ?_
  obtain ⟨x5, s6, q_s6, hm⟩ := zBd_of hm
  refine z_cS (vd := false) C 3 [.int v1, .int (0 : Int32), .int (1000000000 : Int32)] [.ref (ad 0)] (c_X8_isIn (zC_I C) (zC_st C)  q_s6) gX8_taxOn_X8_isIn (by decide +kernel) rfl dX8_taxOn_5 rfl ⟨Nat.le_of_ble_eq_true rfl, Nat.le_of_ble_eq_true rfl⟩ rfl (Nat.le_of_ble_eq_true rfl) ?_
  refine z_if_eq (tgt := 15) C dX8_taxOn_8 (by decide) (fun c7 => ?_) (fun c7 => ?_)
  · have hm := zIt hm c7
    refine z_iconst (v := (1 : Int32)) C dX8_taxOn_15 (by decide) ?_
    exact z_sub [0, 1] rfl (w_X8_taxOn_j16 C hQ  _ _ _ hm)
  · have hm := zIf hm c7
    refine z_iconst (v := (0 : Int32)) C dX8_taxOn_11 (by decide) ?_
    refine z_goto (tgt := 16) C dX8_taxOn_12 (by decide) ?_
    exact z_sub [0, 1] rfl (w_X8_taxOn_j16 C hQ  _ _ _ hm)
set_option maxRecDepth 100000 in
set_option maxHeartbeats 4000000 in
theorem c_X8_taxOn {h : zH} {ad : Nat → Nat} (hI : zI ad zLM.length) (hst : h.1.stackTraces = false) {n : Nat} {v1 : Int32} {s s9 : zS} {r : Int32} (hm : m_X8_taxOn n v1 s = some (r, s9)) : zMR h ad zLM false yX8_taxOn wsX8_taxOn 1 27 [.ref (ad 0), .int v1] s (.inl r) s9 :=
  z_start (cc := cX8_taxOn) (nL := 2) (ret := (some .int)) (own := RX8) (by decide +kernel) rfl rfl hI hst (Nat.le_of_ble_eq_true rfl) (fun G C hQ => w_X8_taxOn_e C hQ _ hm)
set_option maxRecDepth 100000 in
theorem eX8_carry_uX8 : ∀ w ∈ wsX80, w ∈ wsX8_carry := by decide +kernel
set_option maxRecDepth 100000 in
theorem eX8_carry_f28 : Cond.fieldLink RX8 28 RX8 (TX8 9).2.1 (TX8 9).2.2.1 ∈ wsX8_carry := by decide +kernel
set_option maxRecDepth 100000 in
theorem eX8_carry_f31 : Cond.fieldLink RX8 31 RX8 (TX8 10).2.1 (TX8 10).2.2.1 ∈ wsX8_carry := by decide +kernel
set_option maxRecDepth 100000 in
theorem eX8_carry_f112 : Cond.fieldLink RX8 112 RX8 (TX8 8).2.1 (TX8 8).2.2.1 ∈ wsX8_carry := by decide +kernel
set_option maxRecDepth 100000 in
theorem eX8_carry_f65 : Cond.fieldLink RX8 65 RX8 (TX8 23).2.1 (TX8 23).2.2.1 ∈ wsX8_carry := by decide +kernel
set_option maxRecDepth 100000 in
theorem eX8_carry_c105 : Cond.constant RX8 105 (1000000 : Int32) ∈ wsX8_carry := by decide +kernel
set_option maxRecDepth 100000 in
theorem eX8_carry_f139 : Cond.fieldLink RX8 139 RX8 (TX8 7).2.1 (TX8 7).2.2.1 ∈ wsX8_carry := by decide +kernel
set_option maxRecDepth 100000 in
set_option maxHeartbeats 4000000 in
theorem w_X8_carry_j129 {h : zH} {ad : Nat → Nat} {G : zG} (C : zC h ad zLM 4 G cX8_carry RX8 wsX8_carry 1 22) {n : Nat} {r : Int32} {s9 : zS} (hQ : zQ h ad zLM G false (.inl r) s9 (some .int)) (v1 : Int32) (v2 : Int32) (v3 : Int32) (s : zS) (hm : m_X8_carry_j129 n v1 v2 v3 s = some (r, s9)) : zV h ad zLM 4 G s 129 [(0, .ref (ad 0)), (1, .int v1), (2, .int v2), (3, .int v3)] [] := by
  rw [m_X8_carry_j129] at hm
  refine z_aload_n C dX8_carry_129 rfl 0 rfl ?_
  refine z_getr C kM0 vc8 eX8_carry_uX8 9 (by decide) rfl eX8_carry_f28 rfl dX8_carry_130 ?_
  refine z_iload_n C dX8_carry_133 rfl 3 rfl ?_
  refine z_iload_n C dX8_carry_134 rfl 1 rfl ?_
  obtain ⟨s1, i_s1, e_s1, hm⟩ := zWr_of hm
  refine z_iast C kM7 i_s1 e_s1 dX8_carry_135 ?_
  refine z_aload_n C dX8_carry_136 rfl 0 rfl ?_
  refine z_getr C kM0 vc8 eX8_carry_uX8 10 (by decide) rfl eX8_carry_f31 rfl dX8_carry_137 ?_
  refine z_iload_n C dX8_carry_140 rfl 3 rfl ?_
  refine z_iload_n C dX8_carry_141 rfl 2 rfl ?_
  obtain ⟨s2, i_s2, e_s2, hm⟩ := zWr_of hm
  refine z_iast C kM8 i_s2 e_s2 dX8_carry_142 ?_
  refine z_aload_n C dX8_carry_143 rfl 0 rfl ?_
  refine z_dup C dX8_carry_144 rfl ?_
  refine z_get C kM0 vc8 eX8_carry_uX8 8 (by decide) rfl eX8_carry_f112 rfl dX8_carry_145 ?_
  refine z_iconst (v := (1 : Int32)) C dX8_carry_148 (by decide) ?_
  refine z_iadd C dX8_carry_149 ?_
  obtain ⟨s3, e_s3, hm⟩ := zLt_of hm
  refine z_put C kM0 vc8 eX8_carry_uX8 tyX8_ok nmX8 8 (by decide) rfl eX8_carry_f112 rfl rfl rfl e_s3 dX8_carry_150 ?_
  refine z_aload_n C dX8_carry_153 rfl 0 rfl ?_
  obtain ⟨x4, s5, q_s5, hm⟩ := zBd_of hm
  refine z_cV (vd := false) (Cn := RX8) (k := 0) C 0 [] [] (c_X8_all (zC_I C) (zC_st C)  q_s5) gX8_carry_X8_all (by decide +kernel) kM0 vc8 rfl rfl dX8_carry_154 rfl ⟨Nat.le_of_ble_eq_true rfl, Nat.le_of_ble_eq_true rfl⟩ rfl (Nat.le_of_ble_eq_true rfl) ?_
  exact z_iret0 C hQ (zRt_of hm).1 (zRt_of hm).2 dX8_carry_157
set_option maxRecDepth 100000 in
set_option maxHeartbeats 4000000 in
theorem w_X8_carry_j79 {h : zH} {ad : Nat → Nat} {G : zG} (C : zC h ad zLM 4 G cX8_carry RX8 wsX8_carry 1 22) {n : Nat} {r : Int32} {s9 : zS} (hQ : zQ h ad zLM G false (.inl r) s9 (some .int)) : ∀ (f : Nat) (v1 : Int32) (v2 : Int32) (v3 : Int32) (s : zS), m_X8_carry_j79 n f v1 v2 v3 s = some (r, s9) → zV h ad zLM 4 G s 79 [(0, .ref (ad 0)), (1, .int v1), (2, .int v2), (3, .int v3)] [] := by
  intro f
  induction f with
  | zero => intro v1 v2 v3 s hm; simp [m_X8_carry_j79] at hm
  | succ f ih =>
    intro v1 v2 v3 s hm
    rw [m_X8_carry_j79] at hm
    refine z_iload_n C dX8_carry_79 rfl 3 rfl ?_
    refine z_if_le (tgt := 129) C dX8_carry_80 (by decide) (fun c6 => ?_) (fun c6 => ?_)
    · have hm := zIt hm c6
      exact z_sub [0, 1, 2, 3] rfl (w_X8_carry_j129 C hQ  _ _ _ _ hm)
    · have hm := zIf hm c6
      refine z_aload_n C dX8_carry_83 rfl 0 rfl ?_
      refine z_getr C kM0 vc8 eX8_carry_uX8 10 (by decide) rfl eX8_carry_f31 rfl dX8_carry_84 ?_
      refine z_iload_n C dX8_carry_87 rfl 3 rfl ?_
      refine z_iconst (v := (1 : Int32)) C dX8_carry_88 (by decide) ?_
      refine z_isub C dX8_carry_89 ?_
      obtain ⟨x7, i_x7, e_x7, hm⟩ := zRd_of hm
      refine z_iald C kM8 i_x7 e_x7 dX8_carry_90 ?_
      refine z_iload_n C dX8_carry_91 rfl 2 rfl ?_
      refine z_icmp_le (tgt := 129) C dX8_carry_92 (by decide) (fun c8 => ?_) (fun c8 => ?_)
      · have hm := zIt hm c8
        exact z_sub [0, 1, 2, 3] rfl (w_X8_carry_j129 C hQ  _ _ _ _ hm)
      · have hm := zIf hm c8
        refine z_aload_n C dX8_carry_95 rfl 0 rfl ?_
        refine z_getr C kM0 vc8 eX8_carry_uX8 9 (by decide) rfl eX8_carry_f28 rfl dX8_carry_96 ?_
        refine z_iload_n C dX8_carry_99 rfl 3 rfl ?_
        refine z_aload_n C dX8_carry_100 rfl 0 rfl ?_
        refine z_getr C kM0 vc8 eX8_carry_uX8 9 (by decide) rfl eX8_carry_f28 rfl dX8_carry_101 ?_
        refine z_iload_n C dX8_carry_104 rfl 3 rfl ?_
        refine z_iconst (v := (1 : Int32)) C dX8_carry_105 (by decide) ?_
        refine z_isub C dX8_carry_106 ?_
        obtain ⟨x9, i_x9, e_x9, hm⟩ := zRd_of hm
        refine z_iald C kM7 i_x9 e_x9 dX8_carry_107 ?_
        obtain ⟨s10, i_s10, e_s10, hm⟩ := zWr_of hm
        refine z_iast C kM7 i_s10 e_s10 dX8_carry_108 ?_
        refine z_aload_n C dX8_carry_109 rfl 0 rfl ?_
        refine z_getr C kM0 vc8 eX8_carry_uX8 10 (by decide) rfl eX8_carry_f31 rfl dX8_carry_110 ?_
        refine z_iload_n C dX8_carry_113 rfl 3 rfl ?_
        refine z_aload_n C dX8_carry_114 rfl 0 rfl ?_
        refine z_getr C kM0 vc8 eX8_carry_uX8 10 (by decide) rfl eX8_carry_f31 rfl dX8_carry_115 ?_
        refine z_iload_n C dX8_carry_118 rfl 3 rfl ?_
        refine z_iconst (v := (1 : Int32)) C dX8_carry_119 (by decide) ?_
        refine z_isub C dX8_carry_120 ?_
        obtain ⟨x11, i_x11, e_x11, hm⟩ := zRd_of hm
        refine z_iald C kM8 i_x11 e_x11 dX8_carry_121 ?_
        obtain ⟨s12, i_s12, e_s12, hm⟩ := zWr_of hm
        refine z_iast C kM8 i_s12 e_s12 dX8_carry_122 ?_
        obtain ⟨x13, e_x13, hm⟩ := zLt_of hm
        refine z_iinc (j := 3) (v := x13) (d := (-1 : Int32)) (lv' := [(3, .int x13), (0, .ref (ad 0)), (1, .int v1), (2, .int v2)]) C dX8_carry_123 rfl (by decide) e_x13 (by decide) rfl ?_
        refine z_goto (tgt := 79) C dX8_carry_126 (by decide) ?_
        exact z_sub [1, 2, 3, 0] rfl (ih _ _ _ _ hm)
set_option maxRecDepth 100000 in
set_option maxHeartbeats 4000000 in
theorem w_X8_carry_j62 {h : zH} {ad : Nat → Nat} {G : zG} (C : zC h ad zLM 4 G cX8_carry RX8 wsX8_carry 1 22) {n : Nat} {r : Int32} {s9 : zS} (hQ : zQ h ad zLM G false (.inl r) s9 (some .int)) (v1 : Int32) (v2 : Int32) (t1 : Int32) (s : zS) (hm : m_X8_carry_j62 n v1 v2 t1 s = some (r, s9)) : zV h ad zLM 4 G s 62 [(0, .ref (ad 0)), (1, .int v1), (2, .int v2)] [.int t1, .ref (ad 0)] := by
  rw [m_X8_carry_j62] at hm
  obtain ⟨s14, e_s14, hm⟩ := zLt_of hm
  refine z_put C kM0 vc8 eX8_carry_uX8 tyX8_ok nmX8 23 (by decide) rfl eX8_carry_f65 rfl rfl rfl e_s14 dX8_carry_62 ?_
  refine z_aload_n C dX8_carry_65 rfl 0 rfl ?_
  refine z_get C kM0 vc8 eX8_carry_uX8 23 (by decide) rfl eX8_carry_f65 rfl dX8_carry_66 ?_
  refine z_if_le (tgt := 74) C dX8_carry_69 (by decide) (fun c15 => ?_) (fun c15 => ?_)
  · have hm := zIt hm c15
    refine z_aload_n C dX8_carry_74 rfl 0 rfl ?_
    refine z_get C kM0 vc8 eX8_carry_uX8 8 (by decide) rfl eX8_carry_f112 rfl dX8_carry_75 ?_
    obtain ⟨x16, e_x16, hm⟩ := zLt_of hm
    refine z_istore_n (y := x16) (lv' := [(3, .int x16), (0, .ref (ad 0)), (1, .int v1), (2, .int v2)]) C dX8_carry_78 rfl (by decide) e_x16 rfl ?_
    exact z_sub [1, 2, 3, 0] rfl (w_X8_carry_j79 C hQ  _ _ _ _ _ hm)
  · have hm := zIf hm c15
    refine z_iconst (v := (0 : Int32)) C dX8_carry_72 (by decide) ?_
    exact z_iret0 C hQ (zRt_of hm).1 (zRt_of hm).2 dX8_carry_73
set_option maxRecDepth 100000 in
set_option maxHeartbeats 4000000 in
theorem w_X8_carry_j35 {h : zH} {ad : Nat → Nat} {G : zG} (C : zC h ad zLM 4 G cX8_carry RX8 wsX8_carry 1 22) {n : Nat} {r : Int32} {s9 : zS} (hQ : zQ h ad zLM G false (.inl r) s9 (some .int)) (v1 : Int32) (v2 : Int32) (t1 : Int32) (s : zS) (hm : m_X8_carry_j35 n v1 v2 t1 s = some (r, s9)) : zV h ad zLM 4 G s 35 [(0, .ref (ad 0)), (1, .int v1), (2, .int v2)] [.int t1, .ref (ad 0)] := by
  rw [m_X8_carry_j35] at hm
  obtain ⟨s17, e_s17, hm⟩ := zLt_of hm
  refine z_put C kM0 vc8 eX8_carry_uX8 tyX8_ok nmX8 23 (by decide) rfl eX8_carry_f65 rfl rfl rfl e_s17 dX8_carry_35 ?_
  refine z_aload_n C dX8_carry_38 rfl 0 rfl ?_
  refine z_get C kM0 vc8 eX8_carry_uX8 23 (by decide) rfl eX8_carry_f65 rfl dX8_carry_39 ?_
  refine z_if_le (tgt := 47) C dX8_carry_42 (by decide) (fun c18 => ?_) (fun c18 => ?_)
  · have hm := zIt hm c18
    refine z_aload_n C dX8_carry_47 rfl 0 rfl ?_
    refine z_aload_n C dX8_carry_48 rfl 0 rfl ?_
    refine z_get C kM0 vc8 eX8_carry_uX8 8 (by decide) rfl eX8_carry_f112 rfl dX8_carry_49 ?_
    refine z_bipush (v := (8 : Int32)) C dX8_carry_52 (by decide) ?_
    refine z_icmp_ne (tgt := 61) C dX8_carry_54 (by decide) (fun c19 => ?_) (fun c19 => ?_)
    · have hm := zIf hm c19
      refine z_iconst (v := (0 : Int32)) C dX8_carry_61 (by decide) ?_
      exact z_sub [0, 1, 2] rfl (w_X8_carry_j62 C hQ  _ _ _ _ hm)
    · have hm := zIt hm c19
      refine z_iconst (v := (2 : Int32)) C dX8_carry_57 (by decide) ?_
      refine z_goto (tgt := 62) C dX8_carry_58 (by decide) ?_
      exact z_sub [0, 1, 2] rfl (w_X8_carry_j62 C hQ  _ _ _ _ hm)
  · have hm := zIf hm c18
    refine z_iconst (v := (0 : Int32)) C dX8_carry_45 (by decide) ?_
    exact z_iret0 C hQ (zRt_of hm).1 (zRt_of hm).2 dX8_carry_46
set_option maxRecDepth 100000 in
set_option maxHeartbeats 4000000 in
theorem w_X8_carry_e {h : zH} {ad : Nat → Nat} {G : zG} (C : zC h ad zLM 4 G cX8_carry RX8 wsX8_carry 1 22) {n : Nat} {r : Int32} {s9 : zS} (hQ : zQ h ad zLM G false (.inl r) s9 (some .int)) {v1 : Int32} {v2 : Int32} (s : zS) (hm : m_X8_carry n v1 v2 s = some (r, s9)) : zV h ad zLM 4 G s 0 [(0, .ref (ad 0)), (1, .int v1), (2, .int v2)] [] := by
  rw [m_X8_carry] at hm
  refine z_aload_n C dX8_carry_0 rfl 0 rfl ?_
  refine z_iload_n C dX8_carry_1 rfl 1 rfl ?_
  refine z_iconst (v := (1 : Int32)) C dX8_carry_2 (by decide) ?_
  refine z_ldc (v := (1000000 : Int32)) C eX8_carry_c105 dX8_carry_3 ?_
  obtain ⟨x20, s21, q_s21, hm⟩ := zBd_of hm
  refine z_cS (vd := false) C 3 [.int v1, .int (1 : Int32), .int (1000000 : Int32)] [.ref (ad 0)] (c_X8_isIn (zC_I C) (zC_st C)  q_s21) gX8_carry_X8_isIn (by decide +kernel) rfl dX8_carry_5 rfl ⟨Nat.le_of_ble_eq_true rfl, Nat.le_of_ble_eq_true rfl⟩ rfl (Nat.le_of_ble_eq_true rfl) ?_
  refine z_if_eq (tgt := 34) C dX8_carry_8 (by decide) (fun c22 => ?_) (fun c22 => ?_)
  · have hm := zIt hm c22
    refine z_iconst (v := (1 : Int32)) C dX8_carry_34 (by decide) ?_
    exact z_sub [0, 1, 2] rfl (w_X8_carry_j35 C hQ  _ _ _ _ hm)
  · have hm := zIf hm c22
    refine z_iload_n C dX8_carry_11 rfl 2 rfl ?_
    refine z_aload_n C dX8_carry_12 rfl 0 rfl ?_
    refine z_get C kM0 vc8 eX8_carry_uX8 7 (by decide) rfl eX8_carry_f139 rfl dX8_carry_13 ?_
    refine z_icmp_lt (tgt := 34) C dX8_carry_16 (by decide) (fun c23 => ?_) (fun c23 => ?_)
    · have hm := zIt hm c23
      refine z_iconst (v := (1 : Int32)) C dX8_carry_34 (by decide) ?_
      exact z_sub [0, 1, 2] rfl (w_X8_carry_j35 C hQ  _ _ _ _ hm)
    · have hm := zIf hm c23
      refine z_iload_n C dX8_carry_19 rfl 2 rfl ?_
      refine z_aload_n C dX8_carry_20 rfl 0 rfl ?_
      refine z_get C kM0 vc8 eX8_carry_uX8 7 (by decide) rfl eX8_carry_f139 rfl dX8_carry_21 ?_
      refine z_isub C dX8_carry_24 ?_
      refine z_bipush (v := (20 : Int32)) C dX8_carry_25 (by decide) ?_
      refine z_icmp_gt (tgt := 34) C dX8_carry_27 (by decide) (fun c24 => ?_) (fun c24 => ?_)
      · have hm := zIt hm c24
        refine z_iconst (v := (1 : Int32)) C dX8_carry_34 (by decide) ?_
        exact z_sub [0, 1, 2] rfl (w_X8_carry_j35 C hQ  _ _ _ _ hm)
      · have hm := zIf hm c24
        refine z_iconst (v := (0 : Int32)) C dX8_carry_30 (by decide) ?_
        refine z_goto (tgt := 35) C dX8_carry_31 (by decide) ?_
        exact z_sub [0, 1, 2] rfl (w_X8_carry_j35 C hQ  _ _ _ _ hm)
set_option maxRecDepth 100000 in
set_option maxHeartbeats 4000000 in
theorem c_X8_carry {h : zH} {ad : Nat → Nat} (hI : zI ad zLM.length) (hst : h.1.stackTraces = false) {n : Nat} {v1 : Int32} {v2 : Int32} {s s9 : zS} {r : Int32} (hm : m_X8_carry n v1 v2 s = some (r, s9)) : zMR h ad zLM false yX8_carry wsX8_carry 1 22 [.ref (ad 0), .int v1, .int v2] s (.inl r) s9 :=
  z_start (cc := cX8_carry) (nL := 4) (ret := (some .int)) (own := RX8) (by decide +kernel) rfl rfl hI hst (Nat.le_of_ble_eq_true rfl) (fun G C hQ => w_X8_carry_e C hQ _ hm)
set_option maxRecDepth 100000 in
theorem eX8_carried_uX8 : ∀ w ∈ wsX80, w ∈ wsX8_carried := by decide +kernel
set_option maxRecDepth 100000 in
theorem eX8_carried_f65 : Cond.fieldLink RX8 65 RX8 (TX8 23).2.1 (TX8 23).2.2.1 ∈ wsX8_carried := by decide +kernel
set_option maxRecDepth 100000 in
set_option maxHeartbeats 4000000 in
theorem w_X8_carried_e {h : zH} {ad : Nat → Nat} {G : zG} (C : zC h ad zLM 1 G cX8_carried RX8 wsX8_carried 1 22) {n : Nat} {r : Int32} {s9 : zS} (hQ : zQ h ad zLM G false (.inl r) s9 (some .int))  (s : zS) (hm : m_X8_carried n s = some (r, s9)) : zV h ad zLM 1 G s 0 [(0, .ref (ad 0))] [] := by
  rw [m_X8_carried] at hm
  refine z_aload_n C dX8_carried_0 rfl 0 rfl ?_
  refine z_iconst (v := (0 : Int32)) C dX8_carried_1 (by decide) ?_
  obtain ⟨s1, e_s1, hm⟩ := zLt_of hm
  refine z_put C kM0 vc8 eX8_carried_uX8 tyX8_ok nmX8 23 (by decide) rfl eX8_carried_f65 rfl rfl rfl e_s1 dX8_carried_2 ?_
  refine z_aload_n C dX8_carried_5 rfl 0 rfl ?_
  obtain ⟨x2, s3, q_s3, hm⟩ := zBd_of hm
  refine z_cV (vd := false) (Cn := RX8) (k := 0) C 0 [] [] (c_X8_all (zC_I C) (zC_st C)  q_s3) gX8_carried_X8_all (by decide +kernel) kM0 vc8 rfl rfl dX8_carried_6 rfl ⟨Nat.le_of_ble_eq_true rfl, Nat.le_of_ble_eq_true rfl⟩ rfl (Nat.le_of_ble_eq_true rfl) ?_
  exact z_iret0 C hQ (zRt_of hm).1 (zRt_of hm).2 dX8_carried_9
set_option maxRecDepth 100000 in
set_option maxHeartbeats 4000000 in
theorem c_X8_carried {h : zH} {ad : Nat → Nat} (hI : zI ad zLM.length) (hst : h.1.stackTraces = false) {n : Nat} {s s9 : zS} {r : Int32} (hm : m_X8_carried n s = some (r, s9)) : zMR h ad zLM false yX8_carried wsX8_carried 1 22 [.ref (ad 0)] s (.inl r) s9 :=
  z_start (cc := cX8_carried) (nL := 1) (ret := (some .int)) (own := RX8) (by decide +kernel) rfl rfl hI hst (Nat.le_of_ble_eq_true rfl) (fun G C hQ => w_X8_carried_e C hQ _ hm)
set_option maxRecDepth 100000 in
theorem eX8_carriedAt_uX8 : ∀ w ∈ wsX80, w ∈ wsX8_carriedAt := by decide +kernel
set_option maxRecDepth 100000 in
theorem eX8_carriedAt_f65 : Cond.fieldLink RX8 65 RX8 (TX8 23).2.1 (TX8 23).2.2.1 ∈ wsX8_carriedAt := by decide +kernel
set_option maxRecDepth 100000 in
theorem eX8_carriedAt_f28 : Cond.fieldLink RX8 28 RX8 (TX8 9).2.1 (TX8 9).2.2.1 ∈ wsX8_carriedAt := by decide +kernel
set_option maxRecDepth 100000 in
theorem eX8_carriedAt_f112 : Cond.fieldLink RX8 112 RX8 (TX8 8).2.1 (TX8 8).2.2.1 ∈ wsX8_carriedAt := by decide +kernel
set_option maxRecDepth 100000 in
set_option maxHeartbeats 4000000 in
theorem w_X8_carriedAt_j20 {h : zH} {ad : Nat → Nat} {G : zG} (C : zC h ad zLM 2 G cX8_carriedAt RX8 wsX8_carriedAt 1 22) {n : Nat} {r : Int32} {s9 : zS} (hQ : zQ h ad zLM G false (.inl r) s9 (some .int)) (v1 : Int32) (t1 : Int32) (s : zS) (hm : m_X8_carriedAt_j20 n v1 t1 s = some (r, s9)) : zV h ad zLM 2 G s 20 [(0, .ref (ad 0)), (1, .int v1)] [.int t1, .ref (ad 0)] := by
  rw [m_X8_carriedAt_j20] at hm
  obtain ⟨s1, e_s1, hm⟩ := zLt_of hm
  refine z_put C kM0 vc8 eX8_carriedAt_uX8 tyX8_ok nmX8 23 (by decide) rfl eX8_carriedAt_f65 rfl rfl rfl e_s1 dX8_carriedAt_20 ?_
  refine z_aload_n C dX8_carriedAt_23 rfl 0 rfl ?_
  refine z_get C kM0 vc8 eX8_carriedAt_uX8 23 (by decide) rfl eX8_carriedAt_f65 rfl dX8_carriedAt_24 ?_
  refine z_if_le (tgt := 34) C dX8_carriedAt_27 (by decide) (fun c2 => ?_) (fun c2 => ?_)
  · have hm := zIt hm c2
    refine z_aload_n C dX8_carriedAt_34 rfl 0 rfl ?_
    refine z_getr C kM0 vc8 eX8_carriedAt_uX8 9 (by decide) rfl eX8_carriedAt_f28 rfl dX8_carriedAt_35 ?_
    refine z_iload_n C dX8_carriedAt_38 rfl 1 rfl ?_
    obtain ⟨x3, i_x3, e_x3, hm⟩ := zRd_of hm
    refine z_iald C kM7 i_x3 e_x3 dX8_carriedAt_39 ?_
    exact z_iret0 C hQ (zRt_of hm).1 (zRt_of hm).2 dX8_carriedAt_40
  · have hm := zIf hm c2
    refine z_iconst (v := (0 : Int32)) C dX8_carriedAt_30 (by decide) ?_
    refine z_goto (tgt := 40) C dX8_carriedAt_31 (by decide) ?_
    exact z_iret0 C hQ (zRt_of hm).1 (zRt_of hm).2 dX8_carriedAt_40
set_option maxRecDepth 100000 in
set_option maxHeartbeats 4000000 in
theorem w_X8_carriedAt_e {h : zH} {ad : Nat → Nat} {G : zG} (C : zC h ad zLM 2 G cX8_carriedAt RX8 wsX8_carriedAt 1 22) {n : Nat} {r : Int32} {s9 : zS} (hQ : zQ h ad zLM G false (.inl r) s9 (some .int)) {v1 : Int32} (s : zS) (hm : m_X8_carriedAt n v1 s = some (r, s9)) : zV h ad zLM 2 G s 0 [(0, .ref (ad 0)), (1, .int v1)] [] := by
  rw [m_X8_carriedAt] at hm
  refine z_aload_n C dX8_carriedAt_0 rfl 0 rfl ?_
  refine z_iload_n C dX8_carriedAt_1 rfl 1 rfl ?_
  refine z_iconst (v := (0 : Int32)) C dX8_carriedAt_2 (by decide) ?_
  refine z_aload_n C dX8_carriedAt_3 rfl 0 rfl ?_
  refine z_get C kM0 vc8 eX8_carriedAt_uX8 8 (by decide) rfl eX8_carriedAt_f112 rfl dX8_carriedAt_4 ?_
  refine z_iconst (v := (1 : Int32)) C dX8_carriedAt_7 (by decide) ?_
  refine z_isub C dX8_carriedAt_8 ?_
  obtain ⟨x4, s5, q_s5, hm⟩ := zBd_of hm
  refine z_cS (vd := false) C 3 [.int v1, .int (0 : Int32), .int ((s 0 8) - (1 : Int32))] [.ref (ad 0)] (c_X8_isIn (zC_I C) (zC_st C)  q_s5) gX8_carriedAt_X8_isIn (by decide +kernel) rfl dX8_carriedAt_9 rfl ⟨Nat.le_of_ble_eq_true rfl, Nat.le_of_ble_eq_true rfl⟩ rfl (Nat.le_of_ble_eq_true rfl) ?_
  refine z_if_eq (tgt := 19) C dX8_carriedAt_12 (by decide) (fun c6 => ?_) (fun c6 => ?_)
  · have hm := zIt hm c6
    refine z_iconst (v := (1 : Int32)) C dX8_carriedAt_19 (by decide) ?_
    exact z_sub [0, 1] rfl (w_X8_carriedAt_j20 C hQ  _ _ _ hm)
  · have hm := zIf hm c6
    refine z_iconst (v := (0 : Int32)) C dX8_carriedAt_15 (by decide) ?_
    refine z_goto (tgt := 20) C dX8_carriedAt_16 (by decide) ?_
    exact z_sub [0, 1] rfl (w_X8_carriedAt_j20 C hQ  _ _ _ hm)
set_option maxRecDepth 100000 in
set_option maxHeartbeats 4000000 in
theorem c_X8_carriedAt {h : zH} {ad : Nat → Nat} (hI : zI ad zLM.length) (hst : h.1.stackTraces = false) {n : Nat} {v1 : Int32} {s s9 : zS} {r : Int32} (hm : m_X8_carriedAt n v1 s = some (r, s9)) : zMR h ad zLM false yX8_carriedAt wsX8_carriedAt 1 22 [.ref (ad 0), .int v1] s (.inl r) s9 :=
  z_start (cc := cX8_carriedAt) (nL := 2) (ret := (some .int)) (own := RX8) (by decide +kernel) rfl rfl hI hst (Nat.le_of_ble_eq_true rfl) (fun G C hQ => w_X8_carriedAt_e C hQ _ hm)
set_option maxRecDepth 100000 in
theorem eX8_year_uX8 : ∀ w ∈ wsX80, w ∈ wsX8_year := by decide +kernel
set_option maxRecDepth 100000 in
theorem eX8_year_f65 : Cond.fieldLink RX8 65 RX8 (TX8 23).2.1 (TX8 23).2.2.1 ∈ wsX8_year := by decide +kernel
set_option maxRecDepth 100000 in
theorem eX8_year_f139 : Cond.fieldLink RX8 139 RX8 (TX8 7).2.1 (TX8 7).2.2.1 ∈ wsX8_year := by decide +kernel
set_option maxRecDepth 100000 in
set_option maxHeartbeats 4000000 in
theorem w_X8_year_e {h : zH} {ad : Nat → Nat} {G : zG} (C : zC h ad zLM 1 G cX8_year RX8 wsX8_year 0 0) {n : Nat} {r : Int32} {s9 : zS} (hQ : zQ h ad zLM G false (.inl r) s9 (some .int))  (s : zS) (hm : m_X8_year n s = some (r, s9)) : zV h ad zLM 1 G s 0 [(0, .ref (ad 0))] [] := by
  rw [m_X8_year] at hm
  refine z_aload_n C dX8_year_0 rfl 0 rfl ?_
  refine z_iconst (v := (0 : Int32)) C dX8_year_1 (by decide) ?_
  obtain ⟨s1, e_s1, hm⟩ := zLt_of hm
  refine z_put C kM0 vc8 eX8_year_uX8 tyX8_ok nmX8 23 (by decide) rfl eX8_year_f65 rfl rfl rfl e_s1 dX8_year_2 ?_
  refine z_aload_n C dX8_year_5 rfl 0 rfl ?_
  refine z_get C kM0 vc8 eX8_year_uX8 7 (by decide) rfl eX8_year_f139 rfl dX8_year_6 ?_
  exact z_iret0 C hQ (zRt_of hm).1 (zRt_of hm).2 dX8_year_9
set_option maxRecDepth 100000 in
set_option maxHeartbeats 4000000 in
theorem c_X8_year {h : zH} {ad : Nat → Nat} (hI : zI ad zLM.length) (hst : h.1.stackTraces = false) {n : Nat} {s s9 : zS} {r : Int32} (hm : m_X8_year n s = some (r, s9)) : zMR h ad zLM false yX8_year wsX8_year 0 0 [.ref (ad 0)] s (.inl r) s9 :=
  z_start (cc := cX8_year) (nL := 1) (ret := (some .int)) (own := RX8) (by decide +kernel) rfl rfl hI hst (Nat.le_of_ble_eq_true rfl) (fun G C hQ => w_X8_year_e C hQ _ hm)
set_option maxRecDepth 100000 in
theorem eX8_spends_uX8 : ∀ w ∈ wsX80, w ∈ wsX8_spends := by decide +kernel
set_option maxRecDepth 100000 in
theorem eX8_spends_f28 : Cond.fieldLink RX8 28 RX8 (TX8 9).2.1 (TX8 9).2.2.1 ∈ wsX8_spends := by decide +kernel
set_option maxRecDepth 100000 in
theorem eX8_spends_f112 : Cond.fieldLink RX8 112 RX8 (TX8 8).2.1 (TX8 8).2.2.1 ∈ wsX8_spends := by decide +kernel
set_option maxRecDepth 100000 in
set_option maxHeartbeats 4000000 in
theorem w_X8_spends_j32 {h : zH} {ad : Nat → Nat} {G : zG} (C : zC h ad zLM 5 G cX8_spends RX8 wsX8_spends 0 0) {n : Nat} {r : Int32} {s9 : zS} (hQ : zQ h ad zLM G false (.inl r) s9 (some .int)) {rec4 : Int32 → Int32 → Int32 → zS → Option (Int32 × zS)} (hrec4 : ∀ (v1 : Int32) (v2 : Int32) (v3 : Int32) (s : zS), rec4 v1 v2 v3 s = some (r, s9) → zV h ad zLM 5 G s 4 [(0, .ref (ad 0)), (1, .int v1), (2, .int v2), (3, .int v3)] []) (v1 : Int32) (v2 : Int32) (v3 : Int32) (t0 : Int32) (s : zS) (hm : m_X8_spends_j32 rec4 n v1 v2 v3 t0 s = some (r, s9)) : zV h ad zLM 5 G s 32 [(0, .ref (ad 0)), (1, .int v1), (2, .int v2), (3, .int v3)] [.int t0] := by
  rw [m_X8_spends_j32] at hm
  refine z_istore (y := t0) (lv' := [(4, .int t0), (0, .ref (ad 0)), (1, .int v1), (2, .int v2), (3, .int v3)]) C dX8_spends_32 (by decide) rfl rfl ?_
  refine z_aload_n C dX8_spends_34 rfl 1 rfl ?_
  refine z_getr C kM0 vc8 eX8_spends_uX8 9 (by decide) rfl eX8_spends_f28 rfl dX8_spends_35 ?_
  refine z_iload_n C dX8_spends_38 rfl 4 rfl ?_
  refine z_dup2 C dX8_spends_39 rfl rfl ?_
  obtain ⟨x1, i_x1, e_x1, hm⟩ := zRd_of hm
  refine z_iald C kM7 i_x1 e_x1 dX8_spends_40 ?_
  refine z_iload C dX8_spends_41 0 rfl ?_
  refine z_isub C dX8_spends_43 ?_
  obtain ⟨s2, i_s2, e_s2, hm⟩ := zWr_of hm
  refine z_iast C kM7 i_s2 e_s2 dX8_spends_44 ?_
  refine z_iload_n C dX8_spends_45 rfl 3 rfl ?_
  refine z_iload C dX8_spends_46 0 rfl ?_
  refine z_isub C dX8_spends_48 ?_
  obtain ⟨x3, e_x3, hm⟩ := zLt_of hm
  refine z_istore_n (y := x3) (lv' := [(2, .int x3), (4, .int t0), (0, .ref (ad 0)), (1, .int v1), (3, .int v3)]) C dX8_spends_49 rfl (by decide) e_x3 rfl ?_
  obtain ⟨x4, e_x4, hm⟩ := zLt_of hm
  refine z_iinc (j := 4) (v := x4) (d := (1 : Int32)) (lv' := [(3, .int x4), (2, .int x3), (4, .int t0), (0, .ref (ad 0)), (1, .int v1)]) C dX8_spends_50 rfl (by decide) e_x4 (by decide) rfl ?_
  refine z_goto (tgt := 4) C dX8_spends_53 (by decide) ?_
  exact z_sub [3, 4, 1, 0] rfl (hrec4 _ _ _ _ hm)
set_option maxRecDepth 100000 in
set_option maxHeartbeats 4000000 in
theorem w_X8_spends_j4 {h : zH} {ad : Nat → Nat} {G : zG} (C : zC h ad zLM 5 G cX8_spends RX8 wsX8_spends 0 0) {n : Nat} {r : Int32} {s9 : zS} (hQ : zQ h ad zLM G false (.inl r) s9 (some .int)) : ∀ (f : Nat) (v1 : Int32) (v2 : Int32) (v3 : Int32) (s : zS), m_X8_spends_j4 n f v1 v2 v3 s = some (r, s9) → zV h ad zLM 5 G s 4 [(0, .ref (ad 0)), (1, .int v1), (2, .int v2), (3, .int v3)] [] := by
  intro f
  induction f with
  | zero => intro v1 v2 v3 s hm; simp [m_X8_spends_j4] at hm
  | succ f ih =>
    intro v1 v2 v3 s hm
    rw [m_X8_spends_j4] at hm
    refine z_iload_n C dX8_spends_4 rfl 3 rfl ?_
    refine z_aload_n C dX8_spends_5 rfl 0 rfl ?_
    refine z_get C kM0 vc8 eX8_spends_uX8 8 (by decide) rfl eX8_spends_f112 rfl dX8_spends_6 ?_
    refine z_icmp_ge (tgt := 56) C dX8_spends_9 (by decide) (fun c5 => ?_) (fun c5 => ?_)
    · have hm := zIt hm c5
      refine z_iload_n C dX8_spends_56 rfl 1 rfl ?_
      refine z_iload_n C dX8_spends_57 rfl 2 rfl ?_
      refine z_isub C dX8_spends_58 ?_
      exact z_iret0 C hQ (zRt_of hm).1 (zRt_of hm).2 dX8_spends_59
    · have hm := zIf hm c5
      refine z_aload_n C dX8_spends_12 rfl 0 rfl ?_
      refine z_getr C kM0 vc8 eX8_spends_uX8 9 (by decide) rfl eX8_spends_f28 rfl dX8_spends_13 ?_
      refine z_iload_n C dX8_spends_16 rfl 3 rfl ?_
      obtain ⟨x6, i_x6, e_x6, hm⟩ := zRd_of hm
      refine z_iald C kM7 i_x6 e_x6 dX8_spends_17 ?_
      refine z_iload_n C dX8_spends_18 rfl 2 rfl ?_
      refine z_icmp_ge (tgt := 31) C dX8_spends_19 (by decide) (fun c7 => ?_) (fun c7 => ?_)
      · have hm := zIt hm c7
        refine z_iload_n C dX8_spends_31 rfl 2 rfl ?_
        exact z_sub [0, 1, 2, 3] rfl (w_X8_spends_j32 C hQ ih _ _ _ _ _ hm)
      · have hm := zIf hm c7
        refine z_aload_n C dX8_spends_22 rfl 0 rfl ?_
        refine z_getr C kM0 vc8 eX8_spends_uX8 9 (by decide) rfl eX8_spends_f28 rfl dX8_spends_23 ?_
        refine z_iload_n C dX8_spends_26 rfl 3 rfl ?_
        obtain ⟨x8, i_x8, e_x8, hm⟩ := zRd_of hm
        refine z_iald C kM7 i_x8 e_x8 dX8_spends_27 ?_
        refine z_goto (tgt := 32) C dX8_spends_28 (by decide) ?_
        exact z_sub [0, 1, 2, 3] rfl (w_X8_spends_j32 C hQ ih _ _ _ _ _ hm)
set_option maxRecDepth 100000 in
set_option maxHeartbeats 4000000 in
theorem w_X8_spends_e {h : zH} {ad : Nat → Nat} {G : zG} (C : zC h ad zLM 5 G cX8_spends RX8 wsX8_spends 0 0) {n : Nat} {r : Int32} {s9 : zS} (hQ : zQ h ad zLM G false (.inl r) s9 (some .int)) {v1 : Int32} (s : zS) (hm : m_X8_spends n v1 s = some (r, s9)) : zV h ad zLM 5 G s 0 [(0, .ref (ad 0)), (1, .int v1)] [] := by
  rw [m_X8_spends] at hm
  refine z_iload_n C dX8_spends_0 rfl 1 rfl ?_
  refine z_istore_n (y := v1) (lv' := [(2, .int v1), (0, .ref (ad 0)), (1, .int v1)]) C dX8_spends_1 rfl (by decide) rfl rfl ?_
  refine z_iconst (v := (0 : Int32)) C dX8_spends_2 (by decide) ?_
  refine z_istore_n (y := (0 : Int32)) (lv' := [(3, .int (0 : Int32)), (2, .int v1), (0, .ref (ad 0)), (1, .int v1)]) C dX8_spends_3 rfl (by decide) rfl rfl ?_
  exact z_sub [2, 3, 1, 0] rfl (w_X8_spends_j4 C hQ  _ _ _ _ _ hm)
set_option maxRecDepth 100000 in
set_option maxHeartbeats 4000000 in
theorem c_X8_spends {h : zH} {ad : Nat → Nat} (hI : zI ad zLM.length) (hst : h.1.stackTraces = false) {n : Nat} {v1 : Int32} {s s9 : zS} {r : Int32} (hm : m_X8_spends n v1 s = some (r, s9)) : zMR h ad zLM false yX8_spends wsX8_spends 0 0 [.ref (ad 0), .int v1] s (.inl r) s9 :=
  z_start (cc := cX8_spends) (nL := 5) (ret := (some .int)) (own := RX8) (by decide +kernel) rfl rfl hI hst (Nat.le_of_ble_eq_true rfl) (fun G C hQ => w_X8_spends_e C hQ _ hm)
set_option maxRecDepth 100000 in
theorem eX8_closeYear_uX8 : ∀ w ∈ wsX80, w ∈ wsX8_closeYear := by decide +kernel
set_option maxRecDepth 100000 in
theorem eX8_closeYear_f112 : Cond.fieldLink RX8 112 RX8 (TX8 8).2.1 (TX8 8).2.2.1 ∈ wsX8_closeYear := by decide +kernel
set_option maxRecDepth 100000 in
theorem eX8_closeYear_f139 : Cond.fieldLink RX8 139 RX8 (TX8 7).2.1 (TX8 7).2.2.1 ∈ wsX8_closeYear := by decide +kernel
set_option maxRecDepth 100000 in
theorem eX8_closeYear_f28 : Cond.fieldLink RX8 28 RX8 (TX8 9).2.1 (TX8 9).2.2.1 ∈ wsX8_closeYear := by decide +kernel
set_option maxRecDepth 100000 in
theorem eX8_closeYear_f31 : Cond.fieldLink RX8 31 RX8 (TX8 10).2.1 (TX8 10).2.2.1 ∈ wsX8_closeYear := by decide +kernel
set_option maxRecDepth 100000 in
theorem eX8_closeYear_f7 : Cond.fieldLink RX8 7 RX8 (TX8 0).2.1 (TX8 0).2.2.1 ∈ wsX8_closeYear := by decide +kernel
set_option maxRecDepth 100000 in
theorem eX8_closeYear_f40 : Cond.fieldLink RX8 40 RX8 (TX8 14).2.1 (TX8 14).2.2.1 ∈ wsX8_closeYear := by decide +kernel
set_option maxRecDepth 100000 in
theorem eX8_closeYear_f65 : Cond.fieldLink RX8 65 RX8 (TX8 23).2.1 (TX8 23).2.2.1 ∈ wsX8_closeYear := by decide +kernel
set_option maxRecDepth 100000 in
set_option maxHeartbeats 4000000 in
theorem w_X8_closeYear_j59 {h : zH} {ad : Nat → Nat} {G : zG} (C : zC h ad zLM 4 G cX8_closeYear RX8 wsX8_closeYear 6 148) {n : Nat} {r : Int32} {s9 : zS} (hQ : zQ h ad zLM G false (.inl r) s9 (some .int)) : ∀ (f : Nat) (v1 : Int32) (v2 : Int32) (v3 : Int32) (s : zS), m_X8_closeYear_j59 n f v1 v2 v3 s = some (r, s9) → zV h ad zLM 4 G s 59 [(0, .ref (ad 0)), (1, .int v1), (2, .int v2), (3, .int v3)] [] := by
  intro f
  induction f with
  | zero => intro v1 v2 v3 s hm; simp [m_X8_closeYear_j59] at hm
  | succ f ih =>
    intro v1 v2 v3 s hm
    rw [m_X8_closeYear_j59] at hm
    refine z_iload_n C dX8_closeYear_59 rfl 3 rfl ?_
    refine z_aload_n C dX8_closeYear_60 rfl 0 rfl ?_
    refine z_get C kM0 vc8 eX8_closeYear_uX8 8 (by decide) rfl eX8_closeYear_f112 rfl dX8_closeYear_61 ?_
    refine z_icmp_ge (tgt := 122) C dX8_closeYear_64 (by decide) (fun c1 => ?_) (fun c1 => ?_)
    · have hm := zIt hm c1
      refine z_aload_n C dX8_closeYear_122 rfl 0 rfl ?_
      refine z_iload_n C dX8_closeYear_123 rfl 2 rfl ?_
      obtain ⟨s2, e_s2, hm⟩ := zLt_of hm
      refine z_put C kM0 vc8 eX8_closeYear_uX8 tyX8_ok nmX8 8 (by decide) rfl eX8_closeYear_f112 rfl rfl rfl e_s2 dX8_closeYear_124 ?_
      refine z_aload_n C dX8_closeYear_127 rfl 0 rfl ?_
      refine z_dup C dX8_closeYear_128 rfl ?_
      refine z_get C kM0 vc8 eX8_closeYear_uX8 7 (by decide) rfl eX8_closeYear_f139 rfl dX8_closeYear_129 ?_
      refine z_iconst (v := (1 : Int32)) C dX8_closeYear_132 (by decide) ?_
      refine z_iadd C dX8_closeYear_133 ?_
      obtain ⟨s3, e_s3, hm⟩ := zLt_of hm
      refine z_put C kM0 vc8 eX8_closeYear_uX8 tyX8_ok nmX8 7 (by decide) rfl eX8_closeYear_f139 rfl rfl rfl e_s3 dX8_closeYear_134 ?_
      refine z_iload_n C dX8_closeYear_137 rfl 1 rfl ?_
      exact z_iret0 C hQ (zRt_of hm).1 (zRt_of hm).2 dX8_closeYear_138
    · have hm := zIf hm c1
      refine z_aload_n C dX8_closeYear_67 rfl 0 rfl ?_
      refine z_getr C kM0 vc8 eX8_closeYear_uX8 9 (by decide) rfl eX8_closeYear_f28 rfl dX8_closeYear_68 ?_
      refine z_iload_n C dX8_closeYear_71 rfl 3 rfl ?_
      obtain ⟨x4, i_x4, e_x4, hm⟩ := zRd_of hm
      refine z_iald C kM7 i_x4 e_x4 dX8_closeYear_72 ?_
      refine z_if_le (tgt := 116) C dX8_closeYear_73 (by decide) (fun c5 => ?_) (fun c5 => ?_)
      · have hm := zIt hm c5
        obtain ⟨x6, e_x6, hm⟩ := zLt_of hm
        refine z_iinc (j := 3) (v := x6) (d := (1 : Int32)) (lv' := [(3, .int x6), (0, .ref (ad 0)), (1, .int v1), (2, .int v2)]) C dX8_closeYear_116 rfl (by decide) e_x6 (by decide) rfl ?_
        refine z_goto (tgt := 59) C dX8_closeYear_119 (by decide) ?_
        exact z_sub [1, 2, 3, 0] rfl (ih _ _ _ _ hm)
      · have hm := zIf hm c5
        refine z_aload_n C dX8_closeYear_76 rfl 0 rfl ?_
        refine z_getr C kM0 vc8 eX8_closeYear_uX8 10 (by decide) rfl eX8_closeYear_f31 rfl dX8_closeYear_77 ?_
        refine z_iload_n C dX8_closeYear_80 rfl 3 rfl ?_
        obtain ⟨x7, i_x7, e_x7, hm⟩ := zRd_of hm
        refine z_iald C kM8 i_x7 e_x7 dX8_closeYear_81 ?_
        refine z_aload_n C dX8_closeYear_82 rfl 0 rfl ?_
        refine z_get C kM0 vc8 eX8_closeYear_uX8 7 (by decide) rfl eX8_closeYear_f139 rfl dX8_closeYear_83 ?_
        refine z_icmp_le (tgt := 116) C dX8_closeYear_86 (by decide) (fun c8 => ?_) (fun c8 => ?_)
        · have hm := zIt hm c8
          obtain ⟨x9, e_x9, hm⟩ := zLt_of hm
          refine z_iinc (j := 3) (v := x9) (d := (1 : Int32)) (lv' := [(3, .int x9), (0, .ref (ad 0)), (1, .int v1), (2, .int v2)]) C dX8_closeYear_116 rfl (by decide) e_x9 (by decide) rfl ?_
          refine z_goto (tgt := 59) C dX8_closeYear_119 (by decide) ?_
          exact z_sub [1, 2, 3, 0] rfl (ih _ _ _ _ hm)
        · have hm := zIf hm c8
          refine z_aload_n C dX8_closeYear_89 rfl 0 rfl ?_
          refine z_getr C kM0 vc8 eX8_closeYear_uX8 9 (by decide) rfl eX8_closeYear_f28 rfl dX8_closeYear_90 ?_
          refine z_iload_n C dX8_closeYear_93 rfl 2 rfl ?_
          refine z_aload_n C dX8_closeYear_94 rfl 0 rfl ?_
          refine z_getr C kM0 vc8 eX8_closeYear_uX8 9 (by decide) rfl eX8_closeYear_f28 rfl dX8_closeYear_95 ?_
          refine z_iload_n C dX8_closeYear_98 rfl 3 rfl ?_
          obtain ⟨x10, i_x10, e_x10, hm⟩ := zRd_of hm
          refine z_iald C kM7 i_x10 e_x10 dX8_closeYear_99 ?_
          obtain ⟨s11, i_s11, e_s11, hm⟩ := zWr_of hm
          refine z_iast C kM7 i_s11 e_s11 dX8_closeYear_100 ?_
          refine z_aload_n C dX8_closeYear_101 rfl 0 rfl ?_
          refine z_getr C kM0 vc8 eX8_closeYear_uX8 10 (by decide) rfl eX8_closeYear_f31 rfl dX8_closeYear_102 ?_
          refine z_iload_n C dX8_closeYear_105 rfl 2 rfl ?_
          refine z_aload_n C dX8_closeYear_106 rfl 0 rfl ?_
          refine z_getr C kM0 vc8 eX8_closeYear_uX8 10 (by decide) rfl eX8_closeYear_f31 rfl dX8_closeYear_107 ?_
          refine z_iload_n C dX8_closeYear_110 rfl 3 rfl ?_
          obtain ⟨x12, i_x12, e_x12, hm⟩ := zRd_of hm
          refine z_iald C kM8 i_x12 e_x12 dX8_closeYear_111 ?_
          obtain ⟨s13, i_s13, e_s13, hm⟩ := zWr_of hm
          refine z_iast C kM8 i_s13 e_s13 dX8_closeYear_112 ?_
          obtain ⟨x14, e_x14, hm⟩ := zLt_of hm
          refine z_iinc (j := 2) (v := x14) (d := (1 : Int32)) (lv' := [(2, .int x14), (0, .ref (ad 0)), (1, .int v1), (3, .int v3)]) C dX8_closeYear_113 rfl (by decide) e_x14 (by decide) rfl ?_
          obtain ⟨x15, e_x15, hm⟩ := zLt_of hm
          refine z_iinc (j := 3) (v := x15) (d := (1 : Int32)) (lv' := [(3, .int x15), (2, .int x14), (0, .ref (ad 0)), (1, .int v1)]) C dX8_closeYear_116 rfl (by decide) e_x15 (by decide) rfl ?_
          refine z_goto (tgt := 59) C dX8_closeYear_119 (by decide) ?_
          exact z_sub [2, 3, 1, 0] rfl (ih _ _ _ _ hm)
set_option maxRecDepth 100000 in
set_option maxHeartbeats 4000000 in
theorem w_X8_closeYear_j15 {h : zH} {ad : Nat → Nat} {G : zG} (C : zC h ad zLM 4 G cX8_closeYear RX8 wsX8_closeYear 6 148) {n : Nat} {r : Int32} {s9 : zS} (hQ : zQ h ad zLM G false (.inl r) s9 (some .int)) : ∀ (f : Nat) (v1 : Int32) (v2 : Int32) (s : zS), m_X8_closeYear_j15 n f v1 v2 s = some (r, s9) → zV h ad zLM 4 G s 15 [(0, .ref (ad 0)), (1, .int v1), (2, .int v2)] [] := by
  intro f
  induction f with
  | zero => intro v1 v2 s hm; simp [m_X8_closeYear_j15] at hm
  | succ f ih =>
    intro v1 v2 s hm
    rw [m_X8_closeYear_j15] at hm
    refine z_iload_n C dX8_closeYear_15 rfl 2 rfl ?_
    refine z_bipush (v := (16 : Int32)) C dX8_closeYear_16 (by decide) ?_
    refine z_icmp_ge (tgt := 55) C dX8_closeYear_18 (by decide) (fun c16 => ?_) (fun c16 => ?_)
    · have hm := zIt hm c16
      refine z_iconst (v := (0 : Int32)) C dX8_closeYear_55 (by decide) ?_
      refine z_istore_n (y := (0 : Int32)) (lv' := [(2, .int (0 : Int32)), (0, .ref (ad 0)), (1, .int v1)]) C dX8_closeYear_56 rfl (by decide) rfl rfl ?_
      refine z_iconst (v := (0 : Int32)) C dX8_closeYear_57 (by decide) ?_
      refine z_istore_n (y := (0 : Int32)) (lv' := [(3, .int (0 : Int32)), (2, .int (0 : Int32)), (0, .ref (ad 0)), (1, .int v1)]) C dX8_closeYear_58 rfl (by decide) rfl rfl ?_
      exact z_sub [2, 3, 1, 0] rfl (w_X8_closeYear_j59 C hQ  _ _ _ _ _ hm)
    · have hm := zIf hm c16
      refine z_iload_n C dX8_closeYear_21 rfl 1 rfl ?_
      refine z_aload_n C dX8_closeYear_22 rfl 0 rfl ?_
      refine z_getr C kM0 vc8 eX8_closeYear_uX8 0 (by decide) rfl eX8_closeYear_f7 rfl dX8_closeYear_23 ?_
      refine z_iload_n C dX8_closeYear_26 rfl 2 rfl ?_
      obtain ⟨x17, i_x17, e_x17, hm⟩ := zRd_of hm
      refine z_iald C kM1 i_x17 e_x17 dX8_closeYear_27 ?_
      refine z_bipush (v := (7 : Int32)) C dX8_closeYear_28 (by decide) ?_
      refine z_icmp_ne (tgt := 46) C dX8_closeYear_30 (by decide) (fun c18 => ?_) (fun c18 => ?_)
      · have hm := zIf hm c18
        refine z_iconst (v := (0 : Int32)) C dX8_closeYear_46 (by decide) ?_
        refine z_iadd C dX8_closeYear_47 ?_
        obtain ⟨x19, e_x19, hm⟩ := zLt_of hm
        refine z_istore_n (y := x19) (lv' := [(1, .int x19), (0, .ref (ad 0)), (2, .int v2)]) C dX8_closeYear_48 rfl (by decide) e_x19 rfl ?_
        obtain ⟨x20, e_x20, hm⟩ := zLt_of hm
        refine z_iinc (j := 2) (v := x20) (d := (1 : Int32)) (lv' := [(2, .int x20), (1, .int x19), (0, .ref (ad 0))]) C dX8_closeYear_49 rfl (by decide) e_x20 (by decide) rfl ?_
        refine z_goto (tgt := 15) C dX8_closeYear_52 (by decide) ?_
        exact z_sub [2, 1, 0] rfl (ih _ _ _ hm)
      · have hm := zIt hm c18
        refine z_aload_n C dX8_closeYear_33 rfl 0 rfl ?_
        refine z_aload_n C dX8_closeYear_34 rfl 0 rfl ?_
        refine z_getr C kM0 vc8 eX8_closeYear_uX8 14 (by decide) rfl eX8_closeYear_f40 rfl dX8_closeYear_35 ?_
        refine z_iload_n C dX8_closeYear_38 rfl 2 rfl ?_
        obtain ⟨x21, i_x21, e_x21, hm⟩ := zRd_of hm
        refine z_iald C kM11 i_x21 e_x21 dX8_closeYear_39 ?_
        obtain ⟨x22, s23, q_s23, hm⟩ := zBd_of hm
        refine z_cV (vd := false) (Cn := RX8) (k := 0) C 1 [.int x21] [.int v1] (c_X8_spends (zC_I C) (zC_st C)  q_s23) gX8_closeYear_X8_spends (by decide +kernel) kM0 vc8 rfl rfl dX8_closeYear_40 rfl ⟨Nat.le_of_ble_eq_true rfl, Nat.le_of_ble_eq_true rfl⟩ rfl (Nat.le_of_ble_eq_true rfl) ?_
        refine z_goto (tgt := 47) C dX8_closeYear_43 (by decide) ?_
        refine z_iadd C dX8_closeYear_47 ?_
        obtain ⟨x24, e_x24, hm⟩ := zLt_of hm
        refine z_istore_n (y := x24) (lv' := [(1, .int x24), (0, .ref (ad 0)), (2, .int v2)]) C dX8_closeYear_48 rfl (by decide) e_x24 rfl ?_
        obtain ⟨x25, e_x25, hm⟩ := zLt_of hm
        refine z_iinc (j := 2) (v := x25) (d := (1 : Int32)) (lv' := [(2, .int x25), (1, .int x24), (0, .ref (ad 0))]) C dX8_closeYear_49 rfl (by decide) e_x25 (by decide) rfl ?_
        refine z_goto (tgt := 15) C dX8_closeYear_52 (by decide) ?_
        exact z_sub [2, 1, 0] rfl (ih _ _ _ hm)
set_option maxRecDepth 100000 in
set_option maxHeartbeats 4000000 in
theorem w_X8_closeYear_e {h : zH} {ad : Nat → Nat} {G : zG} (C : zC h ad zLM 4 G cX8_closeYear RX8 wsX8_closeYear 6 148) {n : Nat} {r : Int32} {s9 : zS} (hQ : zQ h ad zLM G false (.inl r) s9 (some .int))  (s : zS) (hm : m_X8_closeYear n s = some (r, s9)) : zV h ad zLM 4 G s 0 [(0, .ref (ad 0))] [] := by
  rw [m_X8_closeYear] at hm
  refine z_aload_n C dX8_closeYear_0 rfl 0 rfl ?_
  refine z_iconst (v := (0 : Int32)) C dX8_closeYear_1 (by decide) ?_
  obtain ⟨s26, e_s26, hm⟩ := zLt_of hm
  refine z_put C kM0 vc8 eX8_closeYear_uX8 tyX8_ok nmX8 23 (by decide) rfl eX8_closeYear_f65 rfl rfl rfl e_s26 dX8_closeYear_2 ?_
  refine z_aload_n C dX8_closeYear_5 rfl 0 rfl ?_
  refine z_iconst (v := (-1 : Int32)) C dX8_closeYear_6 (by decide) ?_
  refine z_iconst (v := (0 : Int32)) C dX8_closeYear_7 (by decide) ?_
  obtain ⟨x27, s28, q_s28, hm⟩ := zBd_of hm
  refine z_cV (vd := true) (Cn := RX8) (k := 0) C 2 [.int (-1 : Int32), .int (0 : Int32)] [] (c_X8_solves (zC_I C) (zC_st C)  q_s28) gX8_closeYear_X8_solves (by decide +kernel) kM0 vc8 rfl rfl dX8_closeYear_8 rfl ⟨Nat.le_of_ble_eq_true rfl, Nat.le_of_ble_eq_true rfl⟩ rfl (Nat.le_of_ble_eq_true rfl) ?_
  refine z_iconst (v := (0 : Int32)) C dX8_closeYear_11 (by decide) ?_
  refine z_istore_n (y := (0 : Int32)) (lv' := [(1, .int (0 : Int32)), (0, .ref (ad 0))]) C dX8_closeYear_12 rfl (by decide) rfl rfl ?_
  refine z_iconst (v := (0 : Int32)) C dX8_closeYear_13 (by decide) ?_
  refine z_istore_n (y := (0 : Int32)) (lv' := [(2, .int (0 : Int32)), (1, .int (0 : Int32)), (0, .ref (ad 0))]) C dX8_closeYear_14 rfl (by decide) rfl rfl ?_
  exact z_sub [2, 1, 0] rfl (w_X8_closeYear_j15 C hQ  _ _ _ _ hm)
set_option maxRecDepth 100000 in
set_option maxHeartbeats 4000000 in
theorem c_X8_closeYear {h : zH} {ad : Nat → Nat} (hI : zI ad zLM.length) (hst : h.1.stackTraces = false) {n : Nat} {s s9 : zS} {r : Int32} (hm : m_X8_closeYear n s = some (r, s9)) : zMR h ad zLM false yX8_closeYear wsX8_closeYear 6 148 [.ref (ad 0)] s (.inl r) s9 :=
  z_start (cc := cX8_closeYear) (nL := 4) (ret := (some .int)) (own := RX8) (by decide +kernel) rfl rfl hI hst (Nat.le_of_ble_eq_true rfl) (fun G C hQ => w_X8_closeYear_e C hQ _ hm)
set_option maxRecDepth 100000 in
theorem eX8_addCredit_uX8 : ∀ w ∈ wsX80, w ∈ wsX8_addCredit := by decide +kernel
set_option maxRecDepth 100000 in
theorem eX8_addCredit_f65 : Cond.fieldLink RX8 65 RX8 (TX8 23).2.1 (TX8 23).2.2.1 ∈ wsX8_addCredit := by decide +kernel
set_option maxRecDepth 100000 in
theorem eX8_addCredit_f34 : Cond.fieldLink RX8 34 RX8 (TX8 12).2.1 (TX8 12).2.2.1 ∈ wsX8_addCredit := by decide +kernel
set_option maxRecDepth 100000 in
theorem eX8_addCredit_f145 : Cond.fieldLink RX8 145 RX8 (TX8 11).2.1 (TX8 11).2.2.1 ∈ wsX8_addCredit := by decide +kernel
set_option maxRecDepth 100000 in
theorem eX8_addCredit_f37 : Cond.fieldLink RX8 37 RX8 (TX8 13).2.1 (TX8 13).2.2.1 ∈ wsX8_addCredit := by decide +kernel
set_option maxRecDepth 100000 in
theorem eX8_addCredit_c105 : Cond.constant RX8 105 (1000000 : Int32) ∈ wsX8_addCredit := by decide +kernel
set_option maxRecDepth 100000 in
set_option maxHeartbeats 4000000 in
theorem w_X8_addCredit_j39 {h : zH} {ad : Nat → Nat} {G : zG} (C : zC h ad zLM 3 G cX8_addCredit RX8 wsX8_addCredit 1 22) {n : Nat} {r : Int32} {s9 : zS} (hQ : zQ h ad zLM G false (.inl r) s9 (some .int)) (v1 : Int32) (v2 : Int32) (t1 : Int32) (s : zS) (hm : m_X8_addCredit_j39 n v1 v2 t1 s = some (r, s9)) : zV h ad zLM 3 G s 39 [(0, .ref (ad 0)), (1, .int v1), (2, .int v2)] [.int t1, .ref (ad 0)] := by
  rw [m_X8_addCredit_j39] at hm
  obtain ⟨s1, e_s1, hm⟩ := zLt_of hm
  refine z_put C kM0 vc8 eX8_addCredit_uX8 tyX8_ok nmX8 23 (by decide) rfl eX8_addCredit_f65 rfl rfl rfl e_s1 dX8_addCredit_39 ?_
  refine z_aload_n C dX8_addCredit_42 rfl 0 rfl ?_
  refine z_get C kM0 vc8 eX8_addCredit_uX8 23 (by decide) rfl eX8_addCredit_f65 rfl dX8_addCredit_43 ?_
  refine z_if_le (tgt := 51) C dX8_addCredit_46 (by decide) (fun c2 => ?_) (fun c2 => ?_)
  · have hm := zIt hm c2
    refine z_aload_n C dX8_addCredit_51 rfl 0 rfl ?_
    refine z_getr C kM0 vc8 eX8_addCredit_uX8 12 (by decide) rfl eX8_addCredit_f34 rfl dX8_addCredit_52 ?_
    refine z_aload_n C dX8_addCredit_55 rfl 0 rfl ?_
    refine z_get C kM0 vc8 eX8_addCredit_uX8 11 (by decide) rfl eX8_addCredit_f145 rfl dX8_addCredit_56 ?_
    refine z_iload_n C dX8_addCredit_59 rfl 1 rfl ?_
    obtain ⟨s3, i_s3, e_s3, hm⟩ := zWr_of hm
    refine z_iast C kM9 i_s3 e_s3 dX8_addCredit_60 ?_
    refine z_aload_n C dX8_addCredit_61 rfl 0 rfl ?_
    refine z_getr C kM0 vc8 eX8_addCredit_uX8 13 (by decide) rfl eX8_addCredit_f37 rfl dX8_addCredit_62 ?_
    refine z_aload_n C dX8_addCredit_65 rfl 0 rfl ?_
    refine z_get C kM0 vc8 eX8_addCredit_uX8 11 (by decide) rfl eX8_addCredit_f145 rfl dX8_addCredit_66 ?_
    refine z_iload_n C dX8_addCredit_69 rfl 2 rfl ?_
    obtain ⟨s4, i_s4, e_s4, hm⟩ := zWr_of hm
    refine z_iast C kM10 i_s4 e_s4 dX8_addCredit_70 ?_
    refine z_aload_n C dX8_addCredit_71 rfl 0 rfl ?_
    refine z_dup C dX8_addCredit_72 rfl ?_
    refine z_get C kM0 vc8 eX8_addCredit_uX8 11 (by decide) rfl eX8_addCredit_f145 rfl dX8_addCredit_73 ?_
    refine z_iconst (v := (1 : Int32)) C dX8_addCredit_76 (by decide) ?_
    refine z_iadd C dX8_addCredit_77 ?_
    obtain ⟨s5, e_s5, hm⟩ := zLt_of hm
    refine z_put C kM0 vc8 eX8_addCredit_uX8 tyX8_ok nmX8 11 (by decide) rfl eX8_addCredit_f145 rfl rfl rfl e_s5 dX8_addCredit_78 ?_
    refine z_aload_n C dX8_addCredit_81 rfl 0 rfl ?_
    refine z_get C kM0 vc8 eX8_addCredit_uX8 11 (by decide) rfl eX8_addCredit_f145 rfl dX8_addCredit_82 ?_
    refine z_iconst (v := (1 : Int32)) C dX8_addCredit_85 (by decide) ?_
    refine z_isub C dX8_addCredit_86 ?_
    exact z_iret0 C hQ (zRt_of hm).1 (zRt_of hm).2 dX8_addCredit_87
  · have hm := zIf hm c2
    refine z_iconst (v := (0 : Int32)) C dX8_addCredit_49 (by decide) ?_
    exact z_iret0 C hQ (zRt_of hm).1 (zRt_of hm).2 dX8_addCredit_50
set_option maxRecDepth 100000 in
set_option maxHeartbeats 4000000 in
theorem w_X8_addCredit_e {h : zH} {ad : Nat → Nat} {G : zG} (C : zC h ad zLM 3 G cX8_addCredit RX8 wsX8_addCredit 1 22) {n : Nat} {r : Int32} {s9 : zS} (hQ : zQ h ad zLM G false (.inl r) s9 (some .int)) {v1 : Int32} {v2 : Int32} (s : zS) (hm : m_X8_addCredit n v1 v2 s = some (r, s9)) : zV h ad zLM 3 G s 0 [(0, .ref (ad 0)), (1, .int v1), (2, .int v2)] [] := by
  rw [m_X8_addCredit] at hm
  refine z_aload_n C dX8_addCredit_0 rfl 0 rfl ?_
  refine z_iload_n C dX8_addCredit_1 rfl 1 rfl ?_
  refine z_iconst (v := (1 : Int32)) C dX8_addCredit_2 (by decide) ?_
  refine z_ldc (v := (1000000 : Int32)) C eX8_addCredit_c105 dX8_addCredit_3 ?_
  obtain ⟨x6, s7, q_s7, hm⟩ := zBd_of hm
  refine z_cS (vd := false) C 3 [.int v1, .int (1 : Int32), .int (1000000 : Int32)] [.ref (ad 0)] (c_X8_isIn (zC_I C) (zC_st C)  q_s7) gX8_addCredit_X8_isIn (by decide +kernel) rfl dX8_addCredit_5 rfl ⟨Nat.le_of_ble_eq_true rfl, Nat.le_of_ble_eq_true rfl⟩ rfl (Nat.le_of_ble_eq_true rfl) ?_
  refine z_if_eq (tgt := 22) C dX8_addCredit_8 (by decide) (fun c8 => ?_) (fun c8 => ?_)
  · have hm := zIt hm c8
    refine z_iconst (v := (1 : Int32)) C dX8_addCredit_22 (by decide) ?_
    refine z_goto (tgt := 39) C dX8_addCredit_23 (by decide) ?_
    exact z_sub [0, 1, 2] rfl (w_X8_addCredit_j39 C hQ  _ _ _ _ hm)
  · have hm := zIf hm c8
    refine z_iload_n C dX8_addCredit_11 rfl 2 rfl ?_
    refine z_iconst (v := (0 : Int32)) C dX8_addCredit_12 (by decide) ?_
    refine z_sipush (v := (1000 : Int32)) C dX8_addCredit_13 (by decide) ?_
    obtain ⟨x9, s10, q_s10, hm⟩ := zBd_of hm
    refine z_cS (vd := false) C 3 [.int v2, .int (0 : Int32), .int (1000 : Int32)] [.ref (ad 0)] (c_X8_isIn (zC_I C) (zC_st C)  q_s10) gX8_addCredit_X8_isIn (by decide +kernel) rfl dX8_addCredit_16 rfl ⟨Nat.le_of_ble_eq_true rfl, Nat.le_of_ble_eq_true rfl⟩ rfl (Nat.le_of_ble_eq_true rfl) ?_
    refine z_if_ne (tgt := 26) C dX8_addCredit_19 (by decide) (fun c11 => ?_) (fun c11 => ?_)
    · have hm := zIf hm c11
      refine z_aload_n C dX8_addCredit_26 rfl 0 rfl ?_
      refine z_get C kM0 vc8 eX8_addCredit_uX8 11 (by decide) rfl eX8_addCredit_f145 rfl dX8_addCredit_27 ?_
      refine z_iconst (v := (5 : Int32)) C dX8_addCredit_30 (by decide) ?_
      refine z_icmp_ne (tgt := 38) C dX8_addCredit_31 (by decide) (fun c12 => ?_) (fun c12 => ?_)
      · have hm := zIf hm c12
        refine z_iconst (v := (0 : Int32)) C dX8_addCredit_38 (by decide) ?_
        exact z_sub [0, 1, 2] rfl (w_X8_addCredit_j39 C hQ  _ _ _ _ hm)
      · have hm := zIt hm c12
        refine z_iconst (v := (2 : Int32)) C dX8_addCredit_34 (by decide) ?_
        refine z_goto (tgt := 39) C dX8_addCredit_35 (by decide) ?_
        exact z_sub [0, 1, 2] rfl (w_X8_addCredit_j39 C hQ  _ _ _ _ hm)
    · have hm := zIt hm c11
      refine z_iconst (v := (1 : Int32)) C dX8_addCredit_22 (by decide) ?_
      refine z_goto (tgt := 39) C dX8_addCredit_23 (by decide) ?_
      exact z_sub [0, 1, 2] rfl (w_X8_addCredit_j39 C hQ  _ _ _ _ hm)
set_option maxRecDepth 100000 in
set_option maxHeartbeats 4000000 in
theorem c_X8_addCredit {h : zH} {ad : Nat → Nat} (hI : zI ad zLM.length) (hst : h.1.stackTraces = false) {n : Nat} {v1 : Int32} {v2 : Int32} {s s9 : zS} {r : Int32} (hm : m_X8_addCredit n v1 v2 s = some (r, s9)) : zMR h ad zLM false yX8_addCredit wsX8_addCredit 1 22 [.ref (ad 0), .int v1, .int v2] s (.inl r) s9 :=
  z_start (cc := cX8_addCredit) (nL := 3) (ret := (some .int)) (own := RX8) (by decide +kernel) rfl rfl hI hst (Nat.le_of_ble_eq_true rfl) (fun G C hQ => w_X8_addCredit_e C hQ _ hm)
set_option maxRecDepth 100000 in
theorem eX8_dropCredit_uX8 : ∀ w ∈ wsX80, w ∈ wsX8_dropCredit := by decide +kernel
set_option maxRecDepth 100000 in
theorem eX8_dropCredit_f65 : Cond.fieldLink RX8 65 RX8 (TX8 23).2.1 (TX8 23).2.2.1 ∈ wsX8_dropCredit := by decide +kernel
set_option maxRecDepth 100000 in
theorem eX8_dropCredit_f145 : Cond.fieldLink RX8 145 RX8 (TX8 11).2.1 (TX8 11).2.2.1 ∈ wsX8_dropCredit := by decide +kernel
set_option maxRecDepth 100000 in
set_option maxHeartbeats 4000000 in
theorem w_X8_dropCredit_j13 {h : zH} {ad : Nat → Nat} {G : zG} (C : zC h ad zLM 1 G cX8_dropCredit RX8 wsX8_dropCredit 0 0) {n : Nat} {r : Int32} {s9 : zS} (hQ : zQ h ad zLM G false (.inl r) s9 (some .int)) (t1 : Int32) (s : zS) (hm : m_X8_dropCredit_j13 n t1 s = some (r, s9)) : zV h ad zLM 1 G s 13 [(0, .ref (ad 0))] [.int t1, .ref (ad 0)] := by
  rw [m_X8_dropCredit_j13] at hm
  obtain ⟨s1, e_s1, hm⟩ := zLt_of hm
  refine z_put C kM0 vc8 eX8_dropCredit_uX8 tyX8_ok nmX8 23 (by decide) rfl eX8_dropCredit_f65 rfl rfl rfl e_s1 dX8_dropCredit_13 ?_
  refine z_aload_n C dX8_dropCredit_16 rfl 0 rfl ?_
  refine z_get C kM0 vc8 eX8_dropCredit_uX8 23 (by decide) rfl eX8_dropCredit_f65 rfl dX8_dropCredit_17 ?_
  refine z_if_le (tgt := 25) C dX8_dropCredit_20 (by decide) (fun c2 => ?_) (fun c2 => ?_)
  · have hm := zIt hm c2
    refine z_aload_n C dX8_dropCredit_25 rfl 0 rfl ?_
    refine z_dup C dX8_dropCredit_26 rfl ?_
    refine z_get C kM0 vc8 eX8_dropCredit_uX8 11 (by decide) rfl eX8_dropCredit_f145 rfl dX8_dropCredit_27 ?_
    refine z_iconst (v := (1 : Int32)) C dX8_dropCredit_30 (by decide) ?_
    refine z_isub C dX8_dropCredit_31 ?_
    obtain ⟨s3, e_s3, hm⟩ := zLt_of hm
    refine z_put C kM0 vc8 eX8_dropCredit_uX8 tyX8_ok nmX8 11 (by decide) rfl eX8_dropCredit_f145 rfl rfl rfl e_s3 dX8_dropCredit_32 ?_
    refine z_aload_n C dX8_dropCredit_35 rfl 0 rfl ?_
    refine z_get C kM0 vc8 eX8_dropCredit_uX8 11 (by decide) rfl eX8_dropCredit_f145 rfl dX8_dropCredit_36 ?_
    exact z_iret0 C hQ (zRt_of hm).1 (zRt_of hm).2 dX8_dropCredit_39
  · have hm := zIf hm c2
    refine z_iconst (v := (0 : Int32)) C dX8_dropCredit_23 (by decide) ?_
    exact z_iret0 C hQ (zRt_of hm).1 (zRt_of hm).2 dX8_dropCredit_24
set_option maxRecDepth 100000 in
set_option maxHeartbeats 4000000 in
theorem w_X8_dropCredit_e {h : zH} {ad : Nat → Nat} {G : zG} (C : zC h ad zLM 1 G cX8_dropCredit RX8 wsX8_dropCredit 0 0) {n : Nat} {r : Int32} {s9 : zS} (hQ : zQ h ad zLM G false (.inl r) s9 (some .int))  (s : zS) (hm : m_X8_dropCredit n s = some (r, s9)) : zV h ad zLM 1 G s 0 [(0, .ref (ad 0))] [] := by
  rw [m_X8_dropCredit] at hm
  refine z_aload_n C dX8_dropCredit_0 rfl 0 rfl ?_
  refine z_aload_n C dX8_dropCredit_1 rfl 0 rfl ?_
  refine z_get C kM0 vc8 eX8_dropCredit_uX8 11 (by decide) rfl eX8_dropCredit_f145 rfl dX8_dropCredit_2 ?_
  refine z_if_ne (tgt := 12) C dX8_dropCredit_5 (by decide) (fun c4 => ?_) (fun c4 => ?_)
  · have hm := zIf hm c4
    refine z_iconst (v := (0 : Int32)) C dX8_dropCredit_12 (by decide) ?_
    exact z_sub [0] rfl (w_X8_dropCredit_j13 C hQ  _ _ hm)
  · have hm := zIt hm c4
    refine z_iconst (v := (1 : Int32)) C dX8_dropCredit_8 (by decide) ?_
    refine z_goto (tgt := 13) C dX8_dropCredit_9 (by decide) ?_
    exact z_sub [0] rfl (w_X8_dropCredit_j13 C hQ  _ _ hm)
set_option maxRecDepth 100000 in
set_option maxHeartbeats 4000000 in
theorem c_X8_dropCredit {h : zH} {ad : Nat → Nat} (hI : zI ad zLM.length) (hst : h.1.stackTraces = false) {n : Nat} {s s9 : zS} {r : Int32} (hm : m_X8_dropCredit n s = some (r, s9)) : zMR h ad zLM false yX8_dropCredit wsX8_dropCredit 0 0 [.ref (ad 0)] s (.inl r) s9 :=
  z_start (cc := cX8_dropCredit) (nL := 1) (ret := (some .int)) (own := RX8) (by decide +kernel) rfl rfl hI hst (Nat.le_of_ble_eq_true rfl) (fun G C hQ => w_X8_dropCredit_e C hQ _ hm)
set_option maxRecDepth 100000 in
theorem eX8_comes_uX8 : ∀ w ∈ wsX80, w ∈ wsX8_comes := by decide +kernel
set_option maxRecDepth 100000 in
theorem eX8_comes_f37 : Cond.fieldLink RX8 37 RX8 (TX8 13).2.1 (TX8 13).2.2.1 ∈ wsX8_comes := by decide +kernel
set_option maxRecDepth 100000 in
theorem eX8_comes_f59 : Cond.fieldLink RX8 59 RX8 (TX8 20).2.1 (TX8 20).2.2.1 ∈ wsX8_comes := by decide +kernel
set_option maxRecDepth 100000 in
theorem eX8_comes_c110 : Cond.constantLong RX8 110 (1000 : Int64) ∈ wsX8_comes := by decide +kernel
set_option maxRecDepth 100000 in
theorem eX8_comes_f145 : Cond.fieldLink RX8 145 RX8 (TX8 11).2.1 (TX8 11).2.2.1 ∈ wsX8_comes := by decide +kernel
set_option maxRecDepth 100000 in
theorem eX8_comes_f34 : Cond.fieldLink RX8 34 RX8 (TX8 12).2.1 (TX8 12).2.2.1 ∈ wsX8_comes := by decide +kernel
set_option maxRecDepth 100000 in
set_option maxHeartbeats 4000000 in
theorem w_X8_comes_j42 {h : zH} {ad : Nat → Nat} {G : zG} (C : zC h ad zLM 7 G cX8_comes RX8 wsX8_comes 0 0) {n : Nat} {r : Int32} {s9 : zS} (hQ : zQ h ad zLM G false (.inl r) s9 (some .int)) {rec7 : Int32 → Int32 → Int32 → zS → Option (Int32 × zS)} (hrec7 : ∀ (v2 : Int32) (v3 : Int32) (v4 : Int32) (s : zS), rec7 v2 v3 v4 s = some (r, s9) → zV h ad zLM 7 G s 7 [(0, .ref (ad 0)), (2, .int v2), (3, .int v3), (4, .int v4)] []) (v2 : Int32) (v3 : Int32) (v4 : Int32) (v5 : Int32) (t0 : Int32) (s : zS) (hm : m_X8_comes_j42 rec7 n v2 v3 v4 v5 t0 s = some (r, s9)) : zV h ad zLM 7 G s 42 [(0, .ref (ad 0)), (2, .int v2), (3, .int v3), (4, .int v4), (5, .int v5)] [.int t0] := by
  rw [m_X8_comes_j42] at hm
  refine z_istore (y := t0) (lv' := [(6, .int t0), (0, .ref (ad 0)), (2, .int v2), (3, .int v3), (4, .int v4), (5, .int v5)]) C dX8_comes_42 (by decide) rfl rfl ?_
  refine z_iload_n C dX8_comes_44 rfl 2 rfl ?_
  refine z_iload C dX8_comes_45 0 rfl ?_
  refine z_isub C dX8_comes_47 ?_
  obtain ⟨x1, e_x1, hm⟩ := zLt_of hm
  refine z_istore_n (y := x1) (lv' := [(2, .int x1), (6, .int t0), (0, .ref (ad 0)), (3, .int v3), (4, .int v4), (5, .int v5)]) C dX8_comes_48 rfl (by decide) e_x1 rfl ?_
  refine z_iload_n C dX8_comes_49 rfl 3 rfl ?_
  refine z_iload C dX8_comes_50 1 rfl ?_
  refine z_iload C dX8_comes_52 5 rfl ?_
  refine z_iload C dX8_comes_54 1 rfl ?_
  refine z_isub C dX8_comes_56 ?_
  refine z_i2l C dX8_comes_57 ?_
  refine z_aload_n C dX8_comes_58 rfl 2 rfl ?_
  refine z_getr C kM0 vc8 eX8_comes_uX8 13 (by decide) rfl eX8_comes_f37 rfl dX8_comes_59 ?_
  refine z_aload_n C dX8_comes_62 rfl 2 rfl ?_
  refine z_getr C kM0 vc8 eX8_comes_uX8 20 (by decide) rfl eX8_comes_f59 rfl dX8_comes_63 ?_
  refine z_iload C dX8_comes_66 4 rfl ?_
  obtain ⟨x2, i_x2, e_x2, hm⟩ := zRd_of hm
  refine z_iald C kM17 i_x2 e_x2 dX8_comes_68 ?_
  obtain ⟨x3, i_x3, e_x3, hm⟩ := zRd_of hm
  refine z_iald C kM10 i_x3 e_x3 dX8_comes_69 ?_
  refine z_i2l C dX8_comes_70 ?_
  refine z_lmul C dX8_comes_71 ?_
  refine z_ldc2 (v := (1000 : Int64)) C eX8_comes_c110 dX8_comes_72 ?_
  refine z_ldiv C dX8_comes_75 (by decide) ?_
  refine z_l2i C dX8_comes_76 ?_
  refine z_iadd C dX8_comes_77 ?_
  refine z_iadd C dX8_comes_78 ?_
  obtain ⟨x4, e_x4, hm⟩ := zLt_of hm
  refine z_istore_n (y := x4) (lv' := [(3, .int x4), (2, .int x1), (6, .int t0), (0, .ref (ad 0)), (4, .int v4), (5, .int v5)]) C dX8_comes_79 rfl (by decide) e_x4 rfl ?_
  obtain ⟨x5, e_x5, hm⟩ := zLt_of hm
  refine z_iinc (j := 4) (v := x5) (d := (1 : Int32)) (lv' := [(4, .int x5), (3, .int x4), (2, .int x1), (6, .int t0), (0, .ref (ad 0)), (5, .int v5)]) C dX8_comes_80 rfl (by decide) e_x5 (by decide) rfl ?_
  refine z_goto (tgt := 7) C dX8_comes_83 (by decide) ?_
  exact z_sub [4, 2, 1, 0] rfl (hrec7 _ _ _ _ hm)
set_option maxRecDepth 100000 in
set_option maxHeartbeats 4000000 in
theorem w_X8_comes_j7 {h : zH} {ad : Nat → Nat} {G : zG} (C : zC h ad zLM 7 G cX8_comes RX8 wsX8_comes 0 0) {n : Nat} {r : Int32} {s9 : zS} (hQ : zQ h ad zLM G false (.inl r) s9 (some .int)) : ∀ (f : Nat) (v2 : Int32) (v3 : Int32) (v4 : Int32) (s : zS), m_X8_comes_j7 n f v2 v3 v4 s = some (r, s9) → zV h ad zLM 7 G s 7 [(0, .ref (ad 0)), (2, .int v2), (3, .int v3), (4, .int v4)] [] := by
  intro f
  induction f with
  | zero => intro v2 v3 v4 s hm; simp [m_X8_comes_j7] at hm
  | succ f ih =>
    intro v2 v3 v4 s hm
    rw [m_X8_comes_j7] at hm
    refine z_iload C dX8_comes_7 3 rfl ?_
    refine z_aload_n C dX8_comes_9 rfl 0 rfl ?_
    refine z_get C kM0 vc8 eX8_comes_uX8 11 (by decide) rfl eX8_comes_f145 rfl dX8_comes_10 ?_
    refine z_icmp_ge (tgt := 86) C dX8_comes_13 (by decide) (fun c6 => ?_) (fun c6 => ?_)
    · have hm := zIt hm c6
      refine z_iload_n C dX8_comes_86 rfl 2 rfl ?_
      exact z_iret0 C hQ (zRt_of hm).1 (zRt_of hm).2 dX8_comes_87
    · have hm := zIf hm c6
      refine z_aload_n C dX8_comes_16 rfl 0 rfl ?_
      refine z_getr C kM0 vc8 eX8_comes_uX8 12 (by decide) rfl eX8_comes_f34 rfl dX8_comes_17 ?_
      refine z_aload_n C dX8_comes_20 rfl 0 rfl ?_
      refine z_getr C kM0 vc8 eX8_comes_uX8 20 (by decide) rfl eX8_comes_f59 rfl dX8_comes_21 ?_
      refine z_iload C dX8_comes_24 3 rfl ?_
      obtain ⟨x7, i_x7, e_x7, hm⟩ := zRd_of hm
      refine z_iald C kM17 i_x7 e_x7 dX8_comes_26 ?_
      obtain ⟨x8, i_x8, e_x8, hm⟩ := zRd_of hm
      refine z_iald C kM9 i_x8 e_x8 dX8_comes_27 ?_
      refine z_istore (y := x8) (lv' := [(5, .int x8), (0, .ref (ad 0)), (2, .int v2), (3, .int v3), (4, .int v4)]) C dX8_comes_28 (by decide) rfl rfl ?_
      refine z_iload C dX8_comes_30 0 rfl ?_
      refine z_iload_n C dX8_comes_32 rfl 2 rfl ?_
      refine z_icmp_ge (tgt := 41) C dX8_comes_33 (by decide) (fun c9 => ?_) (fun c9 => ?_)
      · have hm := zIt hm c9
        refine z_iload_n C dX8_comes_41 rfl 2 rfl ?_
        exact z_sub [1, 2, 3, 4, 0] rfl (w_X8_comes_j42 C hQ ih _ _ _ _ _ _ hm)
      · have hm := zIf hm c9
        refine z_iload C dX8_comes_36 0 rfl ?_
        refine z_goto (tgt := 42) C dX8_comes_38 (by decide) ?_
        exact z_sub [1, 2, 3, 4, 0] rfl (w_X8_comes_j42 C hQ ih _ _ _ _ _ _ hm)
set_option maxRecDepth 100000 in
set_option maxHeartbeats 4000000 in
theorem w_X8_comes_e {h : zH} {ad : Nat → Nat} {G : zG} (C : zC h ad zLM 7 G cX8_comes RX8 wsX8_comes 0 0) {n : Nat} {r : Int32} {s9 : zS} (hQ : zQ h ad zLM G false (.inl r) s9 (some .int)) {v1 : Int32} (s : zS) (hm : m_X8_comes n v1 s = some (r, s9)) : zV h ad zLM 7 G s 0 [(0, .ref (ad 0)), (1, .int v1)] [] := by
  rw [m_X8_comes] at hm
  refine z_iload_n C dX8_comes_0 rfl 1 rfl ?_
  refine z_istore_n (y := v1) (lv' := [(2, .int v1), (0, .ref (ad 0)), (1, .int v1)]) C dX8_comes_1 rfl (by decide) rfl rfl ?_
  refine z_iconst (v := (0 : Int32)) C dX8_comes_2 (by decide) ?_
  refine z_istore_n (y := (0 : Int32)) (lv' := [(3, .int (0 : Int32)), (2, .int v1), (0, .ref (ad 0)), (1, .int v1)]) C dX8_comes_3 rfl (by decide) rfl rfl ?_
  refine z_iconst (v := (0 : Int32)) C dX8_comes_4 (by decide) ?_
  refine z_istore (y := (0 : Int32)) (lv' := [(4, .int (0 : Int32)), (3, .int (0 : Int32)), (2, .int v1), (0, .ref (ad 0)), (1, .int v1)]) C dX8_comes_5 (by decide) rfl rfl ?_
  exact z_sub [3, 2, 1, 0] rfl (w_X8_comes_j7 C hQ  _ _ _ _ _ hm)
set_option maxRecDepth 100000 in
set_option maxHeartbeats 4000000 in
theorem c_X8_comes {h : zH} {ad : Nat → Nat} (hI : zI ad zLM.length) (hst : h.1.stackTraces = false) {n : Nat} {v1 : Int32} {s s9 : zS} {r : Int32} (hm : m_X8_comes n v1 s = some (r, s9)) : zMR h ad zLM false yX8_comes wsX8_comes 0 0 [.ref (ad 0), .int v1] s (.inl r) s9 :=
  z_start (cc := cX8_comes) (nL := 7) (ret := (some .int)) (own := RX8) (by decide +kernel) rfl rfl hI hst (Nat.le_of_ble_eq_true rfl) (fun G C hQ => w_X8_comes_e C hQ _ hm)
set_option maxRecDepth 100000 in
theorem eX8_laysOrder_uX8 : ∀ w ∈ wsX80, w ∈ wsX8_laysOrder := by decide +kernel
set_option maxRecDepth 100000 in
theorem eX8_laysOrder_f145 : Cond.fieldLink RX8 145 RX8 (TX8 11).2.1 (TX8 11).2.2.1 ∈ wsX8_laysOrder := by decide +kernel
set_option maxRecDepth 100000 in
theorem eX8_laysOrder_f59 : Cond.fieldLink RX8 59 RX8 (TX8 20).2.1 (TX8 20).2.2.1 ∈ wsX8_laysOrder := by decide +kernel
set_option maxRecDepth 100000 in
set_option maxHeartbeats 4000000 in
theorem w_X8_laysOrder_j12 {h : zH} {ad : Nat → Nat} {G : zG} (C : zC h ad zLM 5 G cX8_laysOrder RX8 wsX8_laysOrder 0 0) {n : Nat} {r : Int32} {s9 : zS} (hQ : zQ h ad zLM G false (.inl r) s9 (some .boolean)) : ∀ (f : Nat) (v2 : Int32) (v3 : Int32) (v4 : Int32) (s : zS), m_X8_laysOrder_j12 n f v2 v3 v4 s = some (r, s9) → zV h ad zLM 5 G s 12 [(0, .ref (ad 0)), (2, .int v2), (3, .int v3), (4, .int v4)] [] := by
  intro f
  induction f with
  | zero => intro v2 v3 v4 s hm; simp [m_X8_laysOrder_j12] at hm
  | succ f ih =>
    intro v2 v3 v4 s hm
    rw [m_X8_laysOrder_j12] at hm
    refine z_iload C dX8_laysOrder_12 3 rfl ?_
    refine z_if_lt (tgt := 55) C dX8_laysOrder_14 (by decide) (fun c1 => ?_) (fun c1 => ?_)
    · have hm := zIt hm c1
      refine z_iload_n C dX8_laysOrder_55 rfl 2 rfl ?_
      refine z_iconst (v := (1 : Int32)) C dX8_laysOrder_56 (by decide) ?_
      refine z_aload_n C dX8_laysOrder_57 rfl 0 rfl ?_
      refine z_get C kM0 vc8 eX8_laysOrder_uX8 11 (by decide) rfl eX8_laysOrder_f145 rfl dX8_laysOrder_58 ?_
      refine z_ishl C dX8_laysOrder_61 ?_
      refine z_iconst (v := (1 : Int32)) C dX8_laysOrder_62 (by decide) ?_
      refine z_isub C dX8_laysOrder_63 ?_
      refine z_icmp_ne (tgt := 71) C dX8_laysOrder_64 (by decide) (fun c2 => ?_) (fun c2 => ?_)
      · have hm := zIf hm c2
        refine z_iconst (v := (0 : Int32)) C dX8_laysOrder_71 (by decide) ?_
        exact z_zret0 C hQ (zRt_of hm).1 (zRt_of hm).2 (by decide) dX8_laysOrder_72
      · have hm := zIt hm c2
        refine z_iconst (v := (1 : Int32)) C dX8_laysOrder_67 (by decide) ?_
        refine z_goto (tgt := 72) C dX8_laysOrder_68 (by decide) ?_
        exact z_zret0 C hQ (zRt_of hm).1 (zRt_of hm).2 (by decide) dX8_laysOrder_72
    · have hm := zIf hm c1
      refine z_aload_n C dX8_laysOrder_17 rfl 0 rfl ?_
      refine z_getr C kM0 vc8 eX8_laysOrder_uX8 20 (by decide) rfl eX8_laysOrder_f59 rfl dX8_laysOrder_18 ?_
      refine z_iload C dX8_laysOrder_21 3 rfl ?_
      refine z_iload_n C dX8_laysOrder_23 rfl 1 rfl ?_
      refine z_aload_n C dX8_laysOrder_24 rfl 0 rfl ?_
      refine z_get C kM0 vc8 eX8_laysOrder_uX8 11 (by decide) rfl eX8_laysOrder_f145 rfl dX8_laysOrder_25 ?_
      obtain ⟨g3, hm⟩ := zGd_of hm
      refine z_irem C dX8_laysOrder_28 g3 ?_
      obtain ⟨s4, i_s4, e_s4, hm⟩ := zWr_of hm
      refine z_iast C kM17 i_s4 e_s4 dX8_laysOrder_29 ?_
      refine z_iload_n C dX8_laysOrder_30 rfl 1 rfl ?_
      refine z_aload_n C dX8_laysOrder_31 rfl 0 rfl ?_
      refine z_get C kM0 vc8 eX8_laysOrder_uX8 11 (by decide) rfl eX8_laysOrder_f145 rfl dX8_laysOrder_32 ?_
      obtain ⟨g5, hm⟩ := zGd_of hm
      refine z_idiv C dX8_laysOrder_35 g5 ?_
      obtain ⟨x6, e_x6, hm⟩ := zLt_of hm
      refine z_istore_n (y := x6) (lv' := [(2, .int x6), (0, .ref (ad 0)), (3, .int v3), (4, .int v4)]) C dX8_laysOrder_36 rfl (by decide) e_x6 rfl ?_
      refine z_iload_n C dX8_laysOrder_37 rfl 2 rfl ?_
      refine z_iconst (v := (1 : Int32)) C dX8_laysOrder_38 (by decide) ?_
      refine z_aload_n C dX8_laysOrder_39 rfl 1 rfl ?_
      refine z_getr C kM0 vc8 eX8_laysOrder_uX8 20 (by decide) rfl eX8_laysOrder_f59 rfl dX8_laysOrder_40 ?_
      refine z_iload C dX8_laysOrder_43 3 rfl ?_
      obtain ⟨x7, i_x7, e_x7, hm⟩ := zRd_of hm
      refine z_iald C kM17 i_x7 e_x7 dX8_laysOrder_45 ?_
      refine z_ishl C dX8_laysOrder_46 ?_
      refine z_ior C dX8_laysOrder_47 ?_
      obtain ⟨x8, e_x8, hm⟩ := zLt_of hm
      refine z_istore_n (y := x8) (lv' := [(3, .int x8), (2, .int x6), (0, .ref (ad 0)), (4, .int v4)]) C dX8_laysOrder_48 rfl (by decide) e_x8 rfl ?_
      obtain ⟨x9, e_x9, hm⟩ := zLt_of hm
      refine z_iinc (j := 3) (v := x9) (d := (-1 : Int32)) (lv' := [(4, .int x9), (3, .int x8), (2, .int x6), (0, .ref (ad 0))]) C dX8_laysOrder_49 rfl (by decide) e_x9 (by decide) rfl ?_
      refine z_goto (tgt := 12) C dX8_laysOrder_52 (by decide) ?_
      exact z_sub [3, 2, 1, 0] rfl (ih _ _ _ _ hm)
set_option maxRecDepth 100000 in
set_option maxHeartbeats 4000000 in
theorem w_X8_laysOrder_e {h : zH} {ad : Nat → Nat} {G : zG} (C : zC h ad zLM 5 G cX8_laysOrder RX8 wsX8_laysOrder 0 0) {n : Nat} {r : Int32} {s9 : zS} (hQ : zQ h ad zLM G false (.inl r) s9 (some .boolean)) {v1 : Int32} (s : zS) (hm : m_X8_laysOrder n v1 s = some (r, s9)) : zV h ad zLM 5 G s 0 [(0, .ref (ad 0)), (1, .int v1)] [] := by
  rw [m_X8_laysOrder] at hm
  refine z_iload_n C dX8_laysOrder_0 rfl 1 rfl ?_
  refine z_istore_n (y := v1) (lv' := [(2, .int v1), (0, .ref (ad 0)), (1, .int v1)]) C dX8_laysOrder_1 rfl (by decide) rfl rfl ?_
  refine z_iconst (v := (0 : Int32)) C dX8_laysOrder_2 (by decide) ?_
  refine z_istore_n (y := (0 : Int32)) (lv' := [(3, .int (0 : Int32)), (2, .int v1), (0, .ref (ad 0)), (1, .int v1)]) C dX8_laysOrder_3 rfl (by decide) rfl rfl ?_
  refine z_aload_n C dX8_laysOrder_4 rfl 2 rfl ?_
  refine z_get C kM0 vc8 eX8_laysOrder_uX8 11 (by decide) rfl eX8_laysOrder_f145 rfl dX8_laysOrder_5 ?_
  refine z_iconst (v := (1 : Int32)) C dX8_laysOrder_8 (by decide) ?_
  refine z_isub C dX8_laysOrder_9 ?_
  obtain ⟨x10, e_x10, hm⟩ := zLt_of hm
  refine z_istore (y := x10) (lv' := [(4, .int x10), (3, .int (0 : Int32)), (2, .int v1), (0, .ref (ad 0)), (1, .int v1)]) C dX8_laysOrder_10 (by decide) e_x10 rfl ?_
  exact z_sub [3, 2, 1, 0] rfl (w_X8_laysOrder_j12 C hQ  _ _ _ _ _ hm)
set_option maxRecDepth 100000 in
set_option maxHeartbeats 4000000 in
theorem c_X8_laysOrder {h : zH} {ad : Nat → Nat} (hI : zI ad zLM.length) (hst : h.1.stackTraces = false) {n : Nat} {v1 : Int32} {s s9 : zS} {r : Int32} (hm : m_X8_laysOrder n v1 s = some (r, s9)) : zMR h ad zLM false yX8_laysOrder wsX8_laysOrder 0 0 [.ref (ad 0), .int v1] s (.inl r) s9 :=
  z_start (cc := cX8_laysOrder) (nL := 5) (ret := (some .boolean)) (own := RX8) (by decide +kernel) rfl rfl hI hst (Nat.le_of_ble_eq_true rfl) (fun G C hQ => w_X8_laysOrder_e C hQ _ hm)
set_option maxRecDepth 100000 in
theorem eX8_orders_uX8 : ∀ w ∈ wsX80, w ∈ wsX8_orders := by decide +kernel
set_option maxRecDepth 100000 in
theorem eX8_orders_f145 : Cond.fieldLink RX8 145 RX8 (TX8 11).2.1 (TX8 11).2.2.1 ∈ wsX8_orders := by decide +kernel
set_option maxRecDepth 100000 in
theorem eX8_orders_f62 : Cond.fieldLink RX8 62 RX8 (TX8 21).2.1 (TX8 21).2.2.1 ∈ wsX8_orders := by decide +kernel
set_option maxRecDepth 100000 in
theorem eX8_orders_f59 : Cond.fieldLink RX8 59 RX8 (TX8 20).2.1 (TX8 20).2.2.1 ∈ wsX8_orders := by decide +kernel
set_option maxRecDepth 100000 in
theorem eX8_orders_f148 : Cond.fieldLink RX8 148 RX8 (TX8 22).2.1 (TX8 22).2.2.1 ∈ wsX8_orders := by decide +kernel
set_option maxRecDepth 100000 in
set_option maxHeartbeats 4000000 in
theorem w_X8_orders_j69 {h : zH} {ad : Nat → Nat} {G : zG} (C : zC h ad zLM 5 G cX8_orders RX8 wsX8_orders 1 26) {n : Nat} {r : Int32} {s9 : zS} (hQ : zQ h ad zLM G true (.inl r) s9 none) {rec32 : Int32 → Int32 → Int32 → zS → Option (Int32 × zS)} (hrec32 : ∀ (v1 : Int32) (v2 : Int32) (v3 : Int32) (s : zS), rec32 v1 v2 v3 s = some (r, s9) → zV h ad zLM 5 G s 32 [(0, .ref (ad 0)), (1, .int v1), (2, .int v2), (3, .int v3)] []) : ∀ (f : Nat) (v1 : Int32) (v2 : Int32) (v3 : Int32) (v4 : Int32) (s : zS), m_X8_orders_j69 rec32 n f v1 v2 v3 v4 s = some (r, s9) → zV h ad zLM 5 G s 69 [(0, .ref (ad 0)), (1, .int v1), (2, .int v2), (3, .int v3), (4, .int v4)] [] := by
  intro f
  induction f with
  | zero => intro v1 v2 v3 v4 s hm; simp [m_X8_orders_j69] at hm
  | succ f ih =>
    intro v1 v2 v3 v4 s hm
    rw [m_X8_orders_j69] at hm
    refine z_iload C dX8_orders_69 4 rfl ?_
    refine z_aload_n C dX8_orders_71 rfl 0 rfl ?_
    refine z_get C kM0 vc8 eX8_orders_uX8 11 (by decide) rfl eX8_orders_f145 rfl dX8_orders_72 ?_
    refine z_icmp_ge (tgt := 98) C dX8_orders_75 (by decide) (fun c1 => ?_) (fun c1 => ?_)
    · have hm := zIt hm c1
      obtain ⟨x2, e_x2, hm⟩ := zLt_of hm
      refine z_iinc (j := 3) (v := x2) (d := (1 : Int32)) (lv' := [(3, .int x2), (0, .ref (ad 0)), (1, .int v1), (2, .int v2), (4, .int v4)]) C dX8_orders_98 rfl (by decide) e_x2 (by decide) rfl ?_
      refine z_goto (tgt := 32) C dX8_orders_101 (by decide) ?_
      exact z_sub [1, 2, 3, 0] rfl (hrec32 _ _ _ _ hm)
    · have hm := zIf hm c1
      refine z_aload_n C dX8_orders_78 rfl 0 rfl ?_
      refine z_getr C kM0 vc8 eX8_orders_uX8 21 (by decide) rfl eX8_orders_f62 rfl dX8_orders_79 ?_
      refine z_iload C dX8_orders_82 4 rfl ?_
      refine z_aload_n C dX8_orders_84 rfl 0 rfl ?_
      refine z_getr C kM0 vc8 eX8_orders_uX8 20 (by decide) rfl eX8_orders_f59 rfl dX8_orders_85 ?_
      refine z_iload C dX8_orders_88 4 rfl ?_
      obtain ⟨x3, i_x3, e_x3, hm⟩ := zRd_of hm
      refine z_iald C kM17 i_x3 e_x3 dX8_orders_90 ?_
      obtain ⟨s4, i_s4, e_s4, hm⟩ := zWr_of hm
      refine z_iast C kM18 i_s4 e_s4 dX8_orders_91 ?_
      obtain ⟨x5, e_x5, hm⟩ := zLt_of hm
      refine z_iinc (j := 4) (v := x5) (d := (1 : Int32)) (lv' := [(4, .int x5), (0, .ref (ad 0)), (1, .int v1), (2, .int v2), (3, .int v3)]) C dX8_orders_92 rfl (by decide) e_x5 (by decide) rfl ?_
      refine z_goto (tgt := 69) C dX8_orders_95 (by decide) ?_
      exact z_sub [1, 2, 3, 4, 0] rfl (ih _ _ _ _ _ hm)
set_option maxRecDepth 100000 in
set_option maxHeartbeats 4000000 in
theorem w_X8_orders_j32 {h : zH} {ad : Nat → Nat} {G : zG} (C : zC h ad zLM 5 G cX8_orders RX8 wsX8_orders 1 26) {n : Nat} {r : Int32} {s9 : zS} (hQ : zQ h ad zLM G true (.inl r) s9 none) : ∀ (f : Nat) (v1 : Int32) (v2 : Int32) (v3 : Int32) (s : zS), m_X8_orders_j32 n f v1 v2 v3 s = some (r, s9) → zV h ad zLM 5 G s 32 [(0, .ref (ad 0)), (1, .int v1), (2, .int v2), (3, .int v3)] [] := by
  intro f
  induction f with
  | zero => intro v1 v2 v3 s hm; simp [m_X8_orders_j32] at hm
  | succ f ih =>
    intro v1 v2 v3 s hm
    rw [m_X8_orders_j32] at hm
    refine z_iload_n C dX8_orders_32 rfl 3 rfl ?_
    refine z_iload_n C dX8_orders_33 rfl 2 rfl ?_
    refine z_icmp_ge (tgt := 104) C dX8_orders_34 (by decide) (fun c6 => ?_) (fun c6 => ?_)
    · have hm := zIt hm c6
      exact z_vret0 C hQ (zRt_of hm).1 (zRt_of hm).2 dX8_orders_104
    · have hm := zIf hm c6
      refine z_aload_n C dX8_orders_37 rfl 0 rfl ?_
      refine z_iload_n C dX8_orders_38 rfl 3 rfl ?_
      obtain ⟨x7, s8, q_s8, hm⟩ := zBd_of hm
      refine z_cV (vd := false) (Cn := RX8) (k := 0) C 1 [.int v3] [] (c_X8_laysOrder (zC_I C) (zC_st C)  q_s8) gX8_orders_X8_laysOrder (by decide +kernel) kM0 vc8 rfl rfl dX8_orders_39 rfl ⟨Nat.le_of_ble_eq_true rfl, Nat.le_of_ble_eq_true rfl⟩ rfl (Nat.le_of_ble_eq_true rfl) ?_
      refine z_if_eq (tgt := 98) C dX8_orders_42 (by decide) (fun c9 => ?_) (fun c9 => ?_)
      · have hm := zIt hm c9
        obtain ⟨x10, e_x10, hm⟩ := zLt_of hm
        refine z_iinc (j := 3) (v := x10) (d := (1 : Int32)) (lv' := [(3, .int x10), (0, .ref (ad 0)), (1, .int v1), (2, .int v2)]) C dX8_orders_98 rfl (by decide) e_x10 (by decide) rfl ?_
        refine z_goto (tgt := 32) C dX8_orders_101 (by decide) ?_
        exact z_sub [1, 2, 3, 0] rfl (ih _ _ _ _ hm)
      · have hm := zIf hm c9
        refine z_aload_n C dX8_orders_45 rfl 0 rfl ?_
        refine z_iload_n C dX8_orders_46 rfl 1 rfl ?_
        obtain ⟨x11, s12, q_s12, hm⟩ := zBd_of hm
        refine z_cV (vd := false) (Cn := RX8) (k := 0) C 1 [.int v1] [] (c_X8_comes (zC_I C) (zC_st C)  q_s12) gX8_orders_X8_comes (by decide +kernel) kM0 vc8 rfl rfl dX8_orders_47 rfl ⟨Nat.le_of_ble_eq_true rfl, Nat.le_of_ble_eq_true rfl⟩ rfl (Nat.le_of_ble_eq_true rfl) ?_
        refine z_aload_n C dX8_orders_50 rfl 0 rfl ?_
        refine z_get C kM0 vc8 eX8_orders_uX8 22 (by decide) rfl eX8_orders_f148 rfl dX8_orders_51 ?_
        refine z_icmp_le (tgt := 98) C dX8_orders_54 (by decide) (fun c13 => ?_) (fun c13 => ?_)
        · have hm := zIt hm c13
          obtain ⟨x14, e_x14, hm⟩ := zLt_of hm
          refine z_iinc (j := 3) (v := x14) (d := (1 : Int32)) (lv' := [(3, .int x14), (0, .ref (ad 0)), (1, .int v1), (2, .int v2)]) C dX8_orders_98 rfl (by decide) e_x14 (by decide) rfl ?_
          refine z_goto (tgt := 32) C dX8_orders_101 (by decide) ?_
          exact z_sub [1, 2, 3, 0] rfl (ih _ _ _ _ hm)
        · have hm := zIf hm c13
          refine z_aload_n C dX8_orders_57 rfl 0 rfl ?_
          refine z_aload_n C dX8_orders_58 rfl 0 rfl ?_
          refine z_iload_n C dX8_orders_59 rfl 1 rfl ?_
          obtain ⟨x15, s16, q_s16, hm⟩ := zBd_of hm
          refine z_cV (vd := false) (Cn := RX8) (k := 0) C 1 [.int v1] [.ref (ad 0)] (c_X8_comes (zC_I C) (zC_st C)  q_s16) gX8_orders_X8_comes (by decide +kernel) kM0 vc8 rfl rfl dX8_orders_60 rfl ⟨Nat.le_of_ble_eq_true rfl, Nat.le_of_ble_eq_true rfl⟩ rfl (Nat.le_of_ble_eq_true rfl) ?_
          obtain ⟨s17, e_s17, hm⟩ := zLt_of hm
          refine z_put C kM0 vc8 eX8_orders_uX8 tyX8_ok nmX8 22 (by decide) rfl eX8_orders_f148 rfl rfl rfl e_s17 dX8_orders_63 ?_
          refine z_iconst (v := (0 : Int32)) C dX8_orders_66 (by decide) ?_
          refine z_istore (y := (0 : Int32)) (lv' := [(4, .int (0 : Int32)), (0, .ref (ad 0)), (1, .int v1), (2, .int v2), (3, .int v3)]) C dX8_orders_67 (by decide) rfl rfl ?_
          exact z_sub [1, 2, 3, 4, 0] rfl (w_X8_orders_j69 C hQ ih _ _ _ _ _ _ hm)
set_option maxRecDepth 100000 in
set_option maxHeartbeats 4000000 in
theorem w_X8_orders_j4 {h : zH} {ad : Nat → Nat} {G : zG} (C : zC h ad zLM 5 G cX8_orders RX8 wsX8_orders 1 26) {n : Nat} {r : Int32} {s9 : zS} (hQ : zQ h ad zLM G true (.inl r) s9 none) : ∀ (f : Nat) (v1 : Int32) (v2 : Int32) (v3 : Int32) (s : zS), m_X8_orders_j4 n f v1 v2 v3 s = some (r, s9) → zV h ad zLM 5 G s 4 [(0, .ref (ad 0)), (1, .int v1), (2, .int v2), (3, .int v3)] [] := by
  intro f
  induction f with
  | zero => intro v1 v2 v3 s hm; simp [m_X8_orders_j4] at hm
  | succ f ih =>
    intro v1 v2 v3 s hm
    rw [m_X8_orders_j4] at hm
    refine z_iload_n C dX8_orders_4 rfl 3 rfl ?_
    refine z_aload_n C dX8_orders_5 rfl 0 rfl ?_
    refine z_get C kM0 vc8 eX8_orders_uX8 11 (by decide) rfl eX8_orders_f145 rfl dX8_orders_6 ?_
    refine z_icmp_ge (tgt := 25) C dX8_orders_9 (by decide) (fun c18 => ?_) (fun c18 => ?_)
    · have hm := zIt hm c18
      refine z_aload_n C dX8_orders_25 rfl 0 rfl ?_
      refine z_iconst (v := (-1 : Int32)) C dX8_orders_26 (by decide) ?_
      obtain ⟨s19, e_s19, hm⟩ := zLt_of hm
      refine z_put C kM0 vc8 eX8_orders_uX8 tyX8_ok nmX8 22 (by decide) rfl eX8_orders_f148 rfl rfl rfl e_s19 dX8_orders_27 ?_
      refine z_iconst (v := (0 : Int32)) C dX8_orders_30 (by decide) ?_
      refine z_istore_n (y := (0 : Int32)) (lv' := [(3, .int (0 : Int32)), (0, .ref (ad 0)), (1, .int v1), (2, .int v2)]) C dX8_orders_31 rfl (by decide) rfl rfl ?_
      exact z_sub [1, 2, 3, 0] rfl (w_X8_orders_j32 C hQ  _ _ _ _ _ hm)
    · have hm := zIf hm c18
      refine z_iload_n C dX8_orders_12 rfl 2 rfl ?_
      refine z_aload_n C dX8_orders_13 rfl 0 rfl ?_
      refine z_get C kM0 vc8 eX8_orders_uX8 11 (by decide) rfl eX8_orders_f145 rfl dX8_orders_14 ?_
      refine z_imul C dX8_orders_17 ?_
      obtain ⟨x20, e_x20, hm⟩ := zLt_of hm
      refine z_istore_n (y := x20) (lv' := [(2, .int x20), (0, .ref (ad 0)), (1, .int v1), (3, .int v3)]) C dX8_orders_18 rfl (by decide) e_x20 rfl ?_
      obtain ⟨x21, e_x21, hm⟩ := zLt_of hm
      refine z_iinc (j := 3) (v := x21) (d := (1 : Int32)) (lv' := [(3, .int x21), (2, .int x20), (0, .ref (ad 0)), (1, .int v1)]) C dX8_orders_19 rfl (by decide) e_x21 (by decide) rfl ?_
      refine z_goto (tgt := 4) C dX8_orders_22 (by decide) ?_
      exact z_sub [2, 3, 1, 0] rfl (ih _ _ _ _ hm)
set_option maxRecDepth 100000 in
set_option maxHeartbeats 4000000 in
theorem w_X8_orders_e {h : zH} {ad : Nat → Nat} {G : zG} (C : zC h ad zLM 5 G cX8_orders RX8 wsX8_orders 1 26) {n : Nat} {r : Int32} {s9 : zS} (hQ : zQ h ad zLM G true (.inl r) s9 none) {v1 : Int32} (s : zS) (hm : m_X8_orders n v1 s = some (r, s9)) : zV h ad zLM 5 G s 0 [(0, .ref (ad 0)), (1, .int v1)] [] := by
  rw [m_X8_orders] at hm
  refine z_iconst (v := (1 : Int32)) C dX8_orders_0 (by decide) ?_
  refine z_istore_n (y := (1 : Int32)) (lv' := [(2, .int (1 : Int32)), (0, .ref (ad 0)), (1, .int v1)]) C dX8_orders_1 rfl (by decide) rfl rfl ?_
  refine z_iconst (v := (0 : Int32)) C dX8_orders_2 (by decide) ?_
  refine z_istore_n (y := (0 : Int32)) (lv' := [(3, .int (0 : Int32)), (2, .int (1 : Int32)), (0, .ref (ad 0)), (1, .int v1)]) C dX8_orders_3 rfl (by decide) rfl rfl ?_
  exact z_sub [2, 3, 1, 0] rfl (w_X8_orders_j4 C hQ  _ _ _ _ _ hm)
set_option maxRecDepth 100000 in
set_option maxHeartbeats 4000000 in
theorem c_X8_orders {h : zH} {ad : Nat → Nat} (hI : zI ad zLM.length) (hst : h.1.stackTraces = false) {n : Nat} {v1 : Int32} {s s9 : zS} {r : Int32} (hm : m_X8_orders n v1 s = some (r, s9)) : zMR h ad zLM true yX8_orders wsX8_orders 1 26 [.ref (ad 0), .int v1] s (.inl r) s9 :=
  z_start (cc := cX8_orders) (nL := 5) (ret := none) (own := RX8) (by decide +kernel) rfl rfl hI hst (Nat.le_of_ble_eq_true rfl) (fun G C hQ => w_X8_orders_e C hQ _ hm)
set_option maxRecDepth 100000 in
theorem eX8_creditAt_uX8 : ∀ w ∈ wsX80, w ∈ wsX8_creditAt := by decide +kernel
set_option maxRecDepth 100000 in
theorem eX8_creditAt_f65 : Cond.fieldLink RX8 65 RX8 (TX8 23).2.1 (TX8 23).2.2.1 ∈ wsX8_creditAt := by decide +kernel
set_option maxRecDepth 100000 in
theorem eX8_creditAt_f40 : Cond.fieldLink RX8 40 RX8 (TX8 14).2.1 (TX8 14).2.2.1 ∈ wsX8_creditAt := by decide +kernel
set_option maxRecDepth 100000 in
theorem eX8_creditAt_f62 : Cond.fieldLink RX8 62 RX8 (TX8 21).2.1 (TX8 21).2.2.1 ∈ wsX8_creditAt := by decide +kernel
set_option maxRecDepth 100000 in
theorem eX8_creditAt_f145 : Cond.fieldLink RX8 145 RX8 (TX8 11).2.1 (TX8 11).2.2.1 ∈ wsX8_creditAt := by decide +kernel
set_option maxRecDepth 100000 in
set_option maxHeartbeats 4000000 in
theorem w_X8_creditAt_j27 {h : zH} {ad : Nat → Nat} {G : zG} (C : zC h ad zLM 3 G cX8_creditAt RX8 wsX8_creditAt 6 148) {n : Nat} {r : Int32} {s9 : zS} (hQ : zQ h ad zLM G false (.inl r) s9 (some .int)) (v1 : Int32) (v2 : Int32) (t1 : Int32) (s : zS) (hm : m_X8_creditAt_j27 n v1 v2 t1 s = some (r, s9)) : zV h ad zLM 3 G s 27 [(0, .ref (ad 0)), (1, .int v1), (2, .int v2)] [.int t1, .ref (ad 0)] := by
  rw [m_X8_creditAt_j27] at hm
  obtain ⟨s1, e_s1, hm⟩ := zLt_of hm
  refine z_put C kM0 vc8 eX8_creditAt_uX8 tyX8_ok nmX8 23 (by decide) rfl eX8_creditAt_f65 rfl rfl rfl e_s1 dX8_creditAt_27 ?_
  refine z_aload_n C dX8_creditAt_30 rfl 0 rfl ?_
  refine z_get C kM0 vc8 eX8_creditAt_uX8 23 (by decide) rfl eX8_creditAt_f65 rfl dX8_creditAt_31 ?_
  refine z_if_le (tgt := 39) C dX8_creditAt_34 (by decide) (fun c2 => ?_) (fun c2 => ?_)
  · have hm := zIt hm c2
    refine z_aload_n C dX8_creditAt_39 rfl 0 rfl ?_
    refine z_iconst (v := (-1 : Int32)) C dX8_creditAt_40 (by decide) ?_
    refine z_iconst (v := (0 : Int32)) C dX8_creditAt_41 (by decide) ?_
    obtain ⟨x3, s4, q_s4, hm⟩ := zBd_of hm
    refine z_cV (vd := true) (Cn := RX8) (k := 0) C 2 [.int (-1 : Int32), .int (0 : Int32)] [] (c_X8_solves (zC_I C) (zC_st C)  q_s4) gX8_creditAt_X8_solves (by decide +kernel) kM0 vc8 rfl rfl dX8_creditAt_42 rfl ⟨Nat.le_of_ble_eq_true rfl, Nat.le_of_ble_eq_true rfl⟩ rfl (Nat.le_of_ble_eq_true rfl) ?_
    refine z_aload_n C dX8_creditAt_45 rfl 0 rfl ?_
    refine z_aload_n C dX8_creditAt_46 rfl 0 rfl ?_
    refine z_getr C kM0 vc8 eX8_creditAt_uX8 14 (by decide) rfl eX8_creditAt_f40 rfl dX8_creditAt_47 ?_
    refine z_iload_n C dX8_creditAt_50 rfl 1 rfl ?_
    obtain ⟨x5, i_x5, e_x5, hm⟩ := zRd_of hm
    refine z_iald C kM11 i_x5 e_x5 dX8_creditAt_51 ?_
    obtain ⟨x6, s7, q_s7, hm⟩ := zBd_of hm
    refine z_cV (vd := true) (Cn := RX8) (k := 0) C 1 [.int x5] [] (c_X8_orders (zC_I C) (zC_st C)  q_s7) gX8_creditAt_X8_orders (by decide +kernel) kM0 vc8 rfl rfl dX8_creditAt_52 rfl ⟨Nat.le_of_ble_eq_true rfl, Nat.le_of_ble_eq_true rfl⟩ rfl (Nat.le_of_ble_eq_true rfl) ?_
    refine z_aload_n C dX8_creditAt_55 rfl 0 rfl ?_
    refine z_getr C kM0 vc8 eX8_creditAt_uX8 21 (by decide) rfl eX8_creditAt_f62 rfl dX8_creditAt_56 ?_
    refine z_iload_n C dX8_creditAt_59 rfl 2 rfl ?_
    obtain ⟨x8, i_x8, e_x8, hm⟩ := zRd_of hm
    refine z_iald C kM18 i_x8 e_x8 dX8_creditAt_60 ?_
    exact z_iret0 C hQ (zRt_of hm).1 (zRt_of hm).2 dX8_creditAt_61
  · have hm := zIf hm c2
    refine z_iconst (v := (0 : Int32)) C dX8_creditAt_37 (by decide) ?_
    exact z_iret0 C hQ (zRt_of hm).1 (zRt_of hm).2 dX8_creditAt_38
set_option maxRecDepth 100000 in
set_option maxHeartbeats 4000000 in
theorem w_X8_creditAt_e {h : zH} {ad : Nat → Nat} {G : zG} (C : zC h ad zLM 3 G cX8_creditAt RX8 wsX8_creditAt 6 148) {n : Nat} {r : Int32} {s9 : zS} (hQ : zQ h ad zLM G false (.inl r) s9 (some .int)) {v1 : Int32} {v2 : Int32} (s : zS) (hm : m_X8_creditAt n v1 v2 s = some (r, s9)) : zV h ad zLM 3 G s 0 [(0, .ref (ad 0)), (1, .int v1), (2, .int v2)] [] := by
  rw [m_X8_creditAt] at hm
  refine z_aload_n C dX8_creditAt_0 rfl 0 rfl ?_
  refine z_iload_n C dX8_creditAt_1 rfl 1 rfl ?_
  obtain ⟨x9, s10, q_s10, hm⟩ := zBd_of hm
  refine z_cS (vd := false) C 1 [.int v1] [.ref (ad 0)] (c_X8_isLine (zC_I C) (zC_st C)  q_s10) gX8_creditAt_X8_isLine (by decide +kernel) rfl dX8_creditAt_2 rfl ⟨Nat.le_of_ble_eq_true rfl, Nat.le_of_ble_eq_true rfl⟩ rfl (Nat.le_of_ble_eq_true rfl) ?_
  refine z_if_eq (tgt := 26) C dX8_creditAt_5 (by decide) (fun c11 => ?_) (fun c11 => ?_)
  · have hm := zIt hm c11
    refine z_iconst (v := (1 : Int32)) C dX8_creditAt_26 (by decide) ?_
    exact z_sub [0, 1, 2] rfl (w_X8_creditAt_j27 C hQ  _ _ _ _ hm)
  · have hm := zIf hm c11
    refine z_iload_n C dX8_creditAt_8 rfl 2 rfl ?_
    refine z_iconst (v := (0 : Int32)) C dX8_creditAt_9 (by decide) ?_
    refine z_aload_n C dX8_creditAt_10 rfl 0 rfl ?_
    refine z_get C kM0 vc8 eX8_creditAt_uX8 11 (by decide) rfl eX8_creditAt_f145 rfl dX8_creditAt_11 ?_
    refine z_iconst (v := (1 : Int32)) C dX8_creditAt_14 (by decide) ?_
    refine z_isub C dX8_creditAt_15 ?_
    obtain ⟨x12, s13, q_s13, hm⟩ := zBd_of hm
    refine z_cS (vd := false) C 3 [.int v2, .int (0 : Int32), .int ((s10 0 11) - (1 : Int32))] [.ref (ad 0)] (c_X8_isIn (zC_I C) (zC_st C)  q_s13) gX8_creditAt_X8_isIn (by decide +kernel) rfl dX8_creditAt_16 rfl ⟨Nat.le_of_ble_eq_true rfl, Nat.le_of_ble_eq_true rfl⟩ rfl (Nat.le_of_ble_eq_true rfl) ?_
    refine z_if_eq (tgt := 26) C dX8_creditAt_19 (by decide) (fun c14 => ?_) (fun c14 => ?_)
    · have hm := zIt hm c14
      refine z_iconst (v := (1 : Int32)) C dX8_creditAt_26 (by decide) ?_
      exact z_sub [0, 1, 2] rfl (w_X8_creditAt_j27 C hQ  _ _ _ _ hm)
    · have hm := zIf hm c14
      refine z_iconst (v := (0 : Int32)) C dX8_creditAt_22 (by decide) ?_
      refine z_goto (tgt := 27) C dX8_creditAt_23 (by decide) ?_
      exact z_sub [0, 1, 2] rfl (w_X8_creditAt_j27 C hQ  _ _ _ _ hm)
set_option maxRecDepth 100000 in
set_option maxHeartbeats 4000000 in
theorem c_X8_creditAt {h : zH} {ad : Nat → Nat} (hI : zI ad zLM.length) (hst : h.1.stackTraces = false) {n : Nat} {v1 : Int32} {v2 : Int32} {s s9 : zS} {r : Int32} (hm : m_X8_creditAt n v1 v2 s = some (r, s9)) : zMR h ad zLM false yX8_creditAt wsX8_creditAt 6 148 [.ref (ad 0), .int v1, .int v2] s (.inl r) s9 :=
  z_start (cc := cX8_creditAt) (nL := 3) (ret := (some .int)) (own := RX8) (by decide +kernel) rfl rfl hI hst (Nat.le_of_ble_eq_true rfl) (fun G C hQ => w_X8_creditAt_e C hQ _ hm)
set_option maxRecDepth 100000 in
theorem eX8_afterCredits_uX8 : ∀ w ∈ wsX80, w ∈ wsX8_afterCredits := by decide +kernel
set_option maxRecDepth 100000 in
theorem eX8_afterCredits_f145 : Cond.fieldLink RX8 145 RX8 (TX8 11).2.1 (TX8 11).2.2.1 ∈ wsX8_afterCredits := by decide +kernel
set_option maxRecDepth 100000 in
theorem eX8_afterCredits_f34 : Cond.fieldLink RX8 34 RX8 (TX8 12).2.1 (TX8 12).2.2.1 ∈ wsX8_afterCredits := by decide +kernel
set_option maxRecDepth 100000 in
theorem eX8_afterCredits_f65 : Cond.fieldLink RX8 65 RX8 (TX8 23).2.1 (TX8 23).2.2.1 ∈ wsX8_afterCredits := by decide +kernel
set_option maxRecDepth 100000 in
theorem eX8_afterCredits_f40 : Cond.fieldLink RX8 40 RX8 (TX8 14).2.1 (TX8 14).2.2.1 ∈ wsX8_afterCredits := by decide +kernel
set_option maxRecDepth 100000 in
set_option maxHeartbeats 4000000 in
theorem w_X8_afterCredits_j40 {h : zH} {ad : Nat → Nat} {G : zG} (C : zC h ad zLM 4 G cX8_afterCredits RX8 wsX8_afterCredits 6 148) {n : Nat} {r : Int32} {s9 : zS} (hQ : zQ h ad zLM G false (.inl r) s9 (some .int)) : ∀ (f : Nat) (v2 : Int32) (v3 : Int32) (s : zS), m_X8_afterCredits_j40 n f v2 v3 s = some (r, s9) → zV h ad zLM 4 G s 40 [(0, .ref (ad 0)), (2, .int v2), (3, .int v3)] [] := by
  intro f
  induction f with
  | zero => intro v2 v3 s hm; simp [m_X8_afterCredits_j40] at hm
  | succ f ih =>
    intro v2 v3 s hm
    rw [m_X8_afterCredits_j40] at hm
    refine z_iload_n C dX8_afterCredits_40 rfl 2 rfl ?_
    refine z_aload_n C dX8_afterCredits_41 rfl 0 rfl ?_
    refine z_get C kM0 vc8 eX8_afterCredits_uX8 11 (by decide) rfl eX8_afterCredits_f145 rfl dX8_afterCredits_42 ?_
    refine z_icmp_ge (tgt := 77) C dX8_afterCredits_45 (by decide) (fun c1 => ?_) (fun c1 => ?_)
    · have hm := zIt hm c1
      refine z_iload_n C dX8_afterCredits_77 rfl 1 rfl ?_
      exact z_iret0 C hQ (zRt_of hm).1 (zRt_of hm).2 dX8_afterCredits_78
    · have hm := zIf hm c1
      refine z_iload_n C dX8_afterCredits_48 rfl 1 rfl ?_
      refine z_aload_n C dX8_afterCredits_49 rfl 0 rfl ?_
      refine z_getr C kM0 vc8 eX8_afterCredits_uX8 12 (by decide) rfl eX8_afterCredits_f34 rfl dX8_afterCredits_50 ?_
      refine z_iload_n C dX8_afterCredits_53 rfl 2 rfl ?_
      obtain ⟨x2, i_x2, e_x2, hm⟩ := zRd_of hm
      refine z_iald C kM9 i_x2 e_x2 dX8_afterCredits_54 ?_
      refine z_iload_n C dX8_afterCredits_55 rfl 1 rfl ?_
      refine z_icmp_ge (tgt := 68) C dX8_afterCredits_56 (by decide) (fun c3 => ?_) (fun c3 => ?_)
      · have hm := zIt hm c3
        refine z_iload_n C dX8_afterCredits_68 rfl 1 rfl ?_
        refine z_isub C dX8_afterCredits_69 ?_
        obtain ⟨x4, e_x4, hm⟩ := zLt_of hm
        refine z_istore_n (y := x4) (lv' := [(2, .int x4), (0, .ref (ad 0)), (3, .int v3)]) C dX8_afterCredits_70 rfl (by decide) e_x4 rfl ?_
        obtain ⟨x5, e_x5, hm⟩ := zLt_of hm
        refine z_iinc (j := 2) (v := x5) (d := (1 : Int32)) (lv' := [(3, .int x5), (2, .int x4), (0, .ref (ad 0))]) C dX8_afterCredits_71 rfl (by decide) e_x5 (by decide) rfl ?_
        refine z_goto (tgt := 40) C dX8_afterCredits_74 (by decide) ?_
        exact z_sub [2, 1, 0] rfl (ih _ _ _ hm)
      · have hm := zIf hm c3
        refine z_aload_n C dX8_afterCredits_59 rfl 0 rfl ?_
        refine z_getr C kM0 vc8 eX8_afterCredits_uX8 12 (by decide) rfl eX8_afterCredits_f34 rfl dX8_afterCredits_60 ?_
        refine z_iload_n C dX8_afterCredits_63 rfl 2 rfl ?_
        obtain ⟨x6, i_x6, e_x6, hm⟩ := zRd_of hm
        refine z_iald C kM9 i_x6 e_x6 dX8_afterCredits_64 ?_
        refine z_goto (tgt := 69) C dX8_afterCredits_65 (by decide) ?_
        refine z_isub C dX8_afterCredits_69 ?_
        obtain ⟨x7, e_x7, hm⟩ := zLt_of hm
        refine z_istore_n (y := x7) (lv' := [(2, .int x7), (0, .ref (ad 0)), (3, .int v3)]) C dX8_afterCredits_70 rfl (by decide) e_x7 rfl ?_
        obtain ⟨x8, e_x8, hm⟩ := zLt_of hm
        refine z_iinc (j := 2) (v := x8) (d := (1 : Int32)) (lv' := [(3, .int x8), (2, .int x7), (0, .ref (ad 0))]) C dX8_afterCredits_71 rfl (by decide) e_x8 (by decide) rfl ?_
        refine z_goto (tgt := 40) C dX8_afterCredits_74 (by decide) ?_
        exact z_sub [2, 1, 0] rfl (ih _ _ _ hm)
set_option maxRecDepth 100000 in
set_option maxHeartbeats 4000000 in
theorem w_X8_afterCredits_j13 {h : zH} {ad : Nat → Nat} {G : zG} (C : zC h ad zLM 4 G cX8_afterCredits RX8 wsX8_afterCredits 6 148) {n : Nat} {r : Int32} {s9 : zS} (hQ : zQ h ad zLM G false (.inl r) s9 (some .int)) (v1 : Int32) (t1 : Int32) (s : zS) (hm : m_X8_afterCredits_j13 n v1 t1 s = some (r, s9)) : zV h ad zLM 4 G s 13 [(0, .ref (ad 0)), (1, .int v1)] [.int t1, .ref (ad 0)] := by
  rw [m_X8_afterCredits_j13] at hm
  obtain ⟨s9, e_s9, hm⟩ := zLt_of hm
  refine z_put C kM0 vc8 eX8_afterCredits_uX8 tyX8_ok nmX8 23 (by decide) rfl eX8_afterCredits_f65 rfl rfl rfl e_s9 dX8_afterCredits_13 ?_
  refine z_aload_n C dX8_afterCredits_16 rfl 0 rfl ?_
  refine z_get C kM0 vc8 eX8_afterCredits_uX8 23 (by decide) rfl eX8_afterCredits_f65 rfl dX8_afterCredits_17 ?_
  refine z_if_le (tgt := 25) C dX8_afterCredits_20 (by decide) (fun c10 => ?_) (fun c10 => ?_)
  · have hm := zIt hm c10
    refine z_aload_n C dX8_afterCredits_25 rfl 0 rfl ?_
    refine z_iconst (v := (-1 : Int32)) C dX8_afterCredits_26 (by decide) ?_
    refine z_iconst (v := (0 : Int32)) C dX8_afterCredits_27 (by decide) ?_
    obtain ⟨x11, s12, q_s12, hm⟩ := zBd_of hm
    refine z_cV (vd := true) (Cn := RX8) (k := 0) C 2 [.int (-1 : Int32), .int (0 : Int32)] [] (c_X8_solves (zC_I C) (zC_st C)  q_s12) gX8_afterCredits_X8_solves (by decide +kernel) kM0 vc8 rfl rfl dX8_afterCredits_28 rfl ⟨Nat.le_of_ble_eq_true rfl, Nat.le_of_ble_eq_true rfl⟩ rfl (Nat.le_of_ble_eq_true rfl) ?_
    refine z_aload_n C dX8_afterCredits_31 rfl 0 rfl ?_
    refine z_getr C kM0 vc8 eX8_afterCredits_uX8 14 (by decide) rfl eX8_afterCredits_f40 rfl dX8_afterCredits_32 ?_
    refine z_iload_n C dX8_afterCredits_35 rfl 1 rfl ?_
    obtain ⟨x13, i_x13, e_x13, hm⟩ := zRd_of hm
    refine z_iald C kM11 i_x13 e_x13 dX8_afterCredits_36 ?_
    refine z_istore_n (y := x13) (lv' := [(2, .int x13), (0, .ref (ad 0)), (1, .int v1)]) C dX8_afterCredits_37 rfl (by decide) rfl rfl ?_
    refine z_iconst (v := (0 : Int32)) C dX8_afterCredits_38 (by decide) ?_
    refine z_istore_n (y := (0 : Int32)) (lv' := [(3, .int (0 : Int32)), (2, .int x13), (0, .ref (ad 0)), (1, .int v1)]) C dX8_afterCredits_39 rfl (by decide) rfl rfl ?_
    exact z_sub [2, 1, 0] rfl (w_X8_afterCredits_j40 C hQ  _ _ _ _ hm)
  · have hm := zIf hm c10
    refine z_iconst (v := (0 : Int32)) C dX8_afterCredits_23 (by decide) ?_
    exact z_iret0 C hQ (zRt_of hm).1 (zRt_of hm).2 dX8_afterCredits_24
set_option maxRecDepth 100000 in
set_option maxHeartbeats 4000000 in
theorem w_X8_afterCredits_e {h : zH} {ad : Nat → Nat} {G : zG} (C : zC h ad zLM 4 G cX8_afterCredits RX8 wsX8_afterCredits 6 148) {n : Nat} {r : Int32} {s9 : zS} (hQ : zQ h ad zLM G false (.inl r) s9 (some .int)) {v1 : Int32} (s : zS) (hm : m_X8_afterCredits n v1 s = some (r, s9)) : zV h ad zLM 4 G s 0 [(0, .ref (ad 0)), (1, .int v1)] [] := by
  rw [m_X8_afterCredits] at hm
  refine z_aload_n C dX8_afterCredits_0 rfl 0 rfl ?_
  refine z_iload_n C dX8_afterCredits_1 rfl 1 rfl ?_
  obtain ⟨x14, s15, q_s15, hm⟩ := zBd_of hm
  refine z_cS (vd := false) C 1 [.int v1] [.ref (ad 0)] (c_X8_isLine (zC_I C) (zC_st C)  q_s15) gX8_afterCredits_X8_isLine (by decide +kernel) rfl dX8_afterCredits_2 rfl ⟨Nat.le_of_ble_eq_true rfl, Nat.le_of_ble_eq_true rfl⟩ rfl (Nat.le_of_ble_eq_true rfl) ?_
  refine z_if_eq (tgt := 12) C dX8_afterCredits_5 (by decide) (fun c16 => ?_) (fun c16 => ?_)
  · have hm := zIt hm c16
    refine z_iconst (v := (1 : Int32)) C dX8_afterCredits_12 (by decide) ?_
    exact z_sub [0, 1] rfl (w_X8_afterCredits_j13 C hQ  _ _ _ hm)
  · have hm := zIf hm c16
    refine z_iconst (v := (0 : Int32)) C dX8_afterCredits_8 (by decide) ?_
    refine z_goto (tgt := 13) C dX8_afterCredits_9 (by decide) ?_
    exact z_sub [0, 1] rfl (w_X8_afterCredits_j13 C hQ  _ _ _ hm)
set_option maxRecDepth 100000 in
set_option maxHeartbeats 4000000 in
theorem c_X8_afterCredits {h : zH} {ad : Nat → Nat} (hI : zI ad zLM.length) (hst : h.1.stackTraces = false) {n : Nat} {v1 : Int32} {s s9 : zS} {r : Int32} (hm : m_X8_afterCredits n v1 s = some (r, s9)) : zMR h ad zLM false yX8_afterCredits wsX8_afterCredits 6 148 [.ref (ad 0), .int v1] s (.inl r) s9 :=
  z_start (cc := cX8_afterCredits) (nL := 4) (ret := (some .int)) (own := RX8) (by decide +kernel) rfl rfl hI hst (Nat.le_of_ble_eq_true rfl) (fun G C hQ => w_X8_afterCredits_e C hQ _ hm)
set_option maxRecDepth 100000 in
theorem eX8_bestSum_uX8 : ∀ w ∈ wsX80, w ∈ wsX8_bestSum := by decide +kernel
set_option maxRecDepth 100000 in
theorem eX8_bestSum_f65 : Cond.fieldLink RX8 65 RX8 (TX8 23).2.1 (TX8 23).2.2.1 ∈ wsX8_bestSum := by decide +kernel
set_option maxRecDepth 100000 in
theorem eX8_bestSum_f40 : Cond.fieldLink RX8 40 RX8 (TX8 14).2.1 (TX8 14).2.2.1 ∈ wsX8_bestSum := by decide +kernel
set_option maxRecDepth 100000 in
theorem eX8_bestSum_f148 : Cond.fieldLink RX8 148 RX8 (TX8 22).2.1 (TX8 22).2.2.1 ∈ wsX8_bestSum := by decide +kernel
set_option maxRecDepth 100000 in
set_option maxHeartbeats 4000000 in
theorem w_X8_bestSum_j13 {h : zH} {ad : Nat → Nat} {G : zG} (C : zC h ad zLM 2 G cX8_bestSum RX8 wsX8_bestSum 6 148) {n : Nat} {r : Int32} {s9 : zS} (hQ : zQ h ad zLM G false (.inl r) s9 (some .int)) (v1 : Int32) (t1 : Int32) (s : zS) (hm : m_X8_bestSum_j13 n v1 t1 s = some (r, s9)) : zV h ad zLM 2 G s 13 [(0, .ref (ad 0)), (1, .int v1)] [.int t1, .ref (ad 0)] := by
  rw [m_X8_bestSum_j13] at hm
  obtain ⟨s1, e_s1, hm⟩ := zLt_of hm
  refine z_put C kM0 vc8 eX8_bestSum_uX8 tyX8_ok nmX8 23 (by decide) rfl eX8_bestSum_f65 rfl rfl rfl e_s1 dX8_bestSum_13 ?_
  refine z_aload_n C dX8_bestSum_16 rfl 0 rfl ?_
  refine z_get C kM0 vc8 eX8_bestSum_uX8 23 (by decide) rfl eX8_bestSum_f65 rfl dX8_bestSum_17 ?_
  refine z_if_le (tgt := 25) C dX8_bestSum_20 (by decide) (fun c2 => ?_) (fun c2 => ?_)
  · have hm := zIt hm c2
    refine z_aload_n C dX8_bestSum_25 rfl 0 rfl ?_
    refine z_iconst (v := (-1 : Int32)) C dX8_bestSum_26 (by decide) ?_
    refine z_iconst (v := (0 : Int32)) C dX8_bestSum_27 (by decide) ?_
    obtain ⟨x3, s4, q_s4, hm⟩ := zBd_of hm
    refine z_cV (vd := true) (Cn := RX8) (k := 0) C 2 [.int (-1 : Int32), .int (0 : Int32)] [] (c_X8_solves (zC_I C) (zC_st C)  q_s4) gX8_bestSum_X8_solves (by decide +kernel) kM0 vc8 rfl rfl dX8_bestSum_28 rfl ⟨Nat.le_of_ble_eq_true rfl, Nat.le_of_ble_eq_true rfl⟩ rfl (Nat.le_of_ble_eq_true rfl) ?_
    refine z_aload_n C dX8_bestSum_31 rfl 0 rfl ?_
    refine z_aload_n C dX8_bestSum_32 rfl 0 rfl ?_
    refine z_getr C kM0 vc8 eX8_bestSum_uX8 14 (by decide) rfl eX8_bestSum_f40 rfl dX8_bestSum_33 ?_
    refine z_iload_n C dX8_bestSum_36 rfl 1 rfl ?_
    obtain ⟨x5, i_x5, e_x5, hm⟩ := zRd_of hm
    refine z_iald C kM11 i_x5 e_x5 dX8_bestSum_37 ?_
    obtain ⟨x6, s7, q_s7, hm⟩ := zBd_of hm
    refine z_cV (vd := true) (Cn := RX8) (k := 0) C 1 [.int x5] [] (c_X8_orders (zC_I C) (zC_st C)  q_s7) gX8_bestSum_X8_orders (by decide +kernel) kM0 vc8 rfl rfl dX8_bestSum_38 rfl ⟨Nat.le_of_ble_eq_true rfl, Nat.le_of_ble_eq_true rfl⟩ rfl (Nat.le_of_ble_eq_true rfl) ?_
    refine z_aload_n C dX8_bestSum_41 rfl 0 rfl ?_
    refine z_get C kM0 vc8 eX8_bestSum_uX8 22 (by decide) rfl eX8_bestSum_f148 rfl dX8_bestSum_42 ?_
    exact z_iret0 C hQ (zRt_of hm).1 (zRt_of hm).2 dX8_bestSum_45
  · have hm := zIf hm c2
    refine z_iconst (v := (0 : Int32)) C dX8_bestSum_23 (by decide) ?_
    exact z_iret0 C hQ (zRt_of hm).1 (zRt_of hm).2 dX8_bestSum_24
set_option maxRecDepth 100000 in
set_option maxHeartbeats 4000000 in
theorem w_X8_bestSum_e {h : zH} {ad : Nat → Nat} {G : zG} (C : zC h ad zLM 2 G cX8_bestSum RX8 wsX8_bestSum 6 148) {n : Nat} {r : Int32} {s9 : zS} (hQ : zQ h ad zLM G false (.inl r) s9 (some .int)) {v1 : Int32} (s : zS) (hm : m_X8_bestSum n v1 s = some (r, s9)) : zV h ad zLM 2 G s 0 [(0, .ref (ad 0)), (1, .int v1)] [] := by
  rw [m_X8_bestSum] at hm
  refine z_aload_n C dX8_bestSum_0 rfl 0 rfl ?_
  refine z_iload_n C dX8_bestSum_1 rfl 1 rfl ?_
  obtain ⟨x8, s9, q_s9, hm⟩ := zBd_of hm
  refine z_cS (vd := false) C 1 [.int v1] [.ref (ad 0)] (c_X8_isLine (zC_I C) (zC_st C)  q_s9) gX8_bestSum_X8_isLine (by decide +kernel) rfl dX8_bestSum_2 rfl ⟨Nat.le_of_ble_eq_true rfl, Nat.le_of_ble_eq_true rfl⟩ rfl (Nat.le_of_ble_eq_true rfl) ?_
  refine z_if_eq (tgt := 12) C dX8_bestSum_5 (by decide) (fun c10 => ?_) (fun c10 => ?_)
  · have hm := zIt hm c10
    refine z_iconst (v := (1 : Int32)) C dX8_bestSum_12 (by decide) ?_
    exact z_sub [0, 1] rfl (w_X8_bestSum_j13 C hQ  _ _ _ hm)
  · have hm := zIf hm c10
    refine z_iconst (v := (0 : Int32)) C dX8_bestSum_8 (by decide) ?_
    refine z_goto (tgt := 13) C dX8_bestSum_9 (by decide) ?_
    exact z_sub [0, 1] rfl (w_X8_bestSum_j13 C hQ  _ _ _ hm)
set_option maxRecDepth 100000 in
set_option maxHeartbeats 4000000 in
theorem c_X8_bestSum {h : zH} {ad : Nat → Nat} (hI : zI ad zLM.length) (hst : h.1.stackTraces = false) {n : Nat} {v1 : Int32} {s s9 : zS} {r : Int32} (hm : m_X8_bestSum n v1 s = some (r, s9)) : zMR h ad zLM false yX8_bestSum wsX8_bestSum 6 148 [.ref (ad 0), .int v1] s (.inl r) s9 :=
  z_start (cc := cX8_bestSum) (nL := 2) (ret := (some .int)) (own := RX8) (by decide +kernel) rfl rfl hI hst (Nat.le_of_ble_eq_true rfl) (fun G C hQ => w_X8_bestSum_e C hQ _ hm)
