set_option maxRecDepth 100000 in
theorem eX8_thrown_uX8 : ∀ w ∈ wsX80, w ∈ wsX8_thrown := by decide +kernel
set_option maxRecDepth 100000 in
theorem eX8_thrown_f65 : Cond.fieldLink RX8 65 RX8 (TX8 23).2.1 (TX8 23).2.2.1 ∈ wsX8_thrown := by decide +kernel
set_option maxRecDepth 100000 in
set_option maxHeartbeats 4000000 in
theorem w_X8_thrown_e {h : zH} {ad : Nat → Nat} {G : zG} (C : zC h ad zLM 1 G cX8_thrown RX8 wsX8_thrown 0 0) {n : Nat} {r : Int32} {s9 : zS} (hQ : zQ h ad zLM G false (.inl r) s9 (some .int))  (s : zS) (hm : m_X8_thrown n s = some (r, s9)) : zV h ad zLM 1 G s 0 [(0, .ref (ad 0))] [] := by
  rw [m_X8_thrown] at hm
  refine z_aload_n C dX8_thrown_0 rfl 0 rfl ?_
  refine z_get C kM0 vc8 eX8_thrown_uX8 23 (by decide) rfl eX8_thrown_f65 rfl dX8_thrown_1 ?_
  exact z_iret0 C hQ (zRt_of hm).1 (zRt_of hm).2 dX8_thrown_4
set_option maxRecDepth 100000 in
set_option maxHeartbeats 4000000 in
theorem c_X8_thrown {h : zH} {ad : Nat → Nat} (hI : zI ad zLM.length) (hst : h.1.stackTraces = false) {n : Nat} {s s9 : zS} {r : Int32} (hm : m_X8_thrown n s = some (r, s9)) : zMR h ad zLM false yX8_thrown wsX8_thrown 0 0 [.ref (ad 0)] s (.inl r) s9 :=
  z_start (cc := cX8_thrown) (nL := 1) (ret := (some .int)) (own := RX8) (by decide +kernel) rfl rfl hI hst (Nat.le_of_ble_eq_true rfl) (fun G C hQ => w_X8_thrown_e C hQ _ hm)
set_option maxRecDepth 100000 in
set_option maxHeartbeats 4000000 in
theorem w_X8_isIn_e {h : zH} {ad : Nat → Nat} {G : zG} (C : zC h ad zLM 3 G cX8_isIn RX8 wsX8_isIn 0 0) {n : Nat} {r : Int32} {s9 : zS} (hQ : zQ h ad zLM G false (.inl r) s9 (some .boolean)) {v0 : Int32} {v1 : Int32} {v2 : Int32} (s : zS) (hm : m_X8_isIn n v0 v1 v2 s = some (r, s9)) : zV h ad zLM 3 G s 0 [(0, .int v0), (1, .int v1), (2, .int v2)] [] := by
  rw [m_X8_isIn] at hm
  refine z_iload_n C dX8_isIn_0 rfl 0 rfl ?_
  refine z_iload_n C dX8_isIn_1 rfl 1 rfl ?_
  refine z_icmp_lt (tgt := 14) C dX8_isIn_2 (by decide) (fun c1 => ?_) (fun c1 => ?_)
  · have hm := zIt hm c1
    refine z_iconst (v := (0 : Int32)) C dX8_isIn_14 (by decide) ?_
    exact z_zret0 C hQ (zRt_of hm).1 (zRt_of hm).2 (by decide) dX8_isIn_15
  · have hm := zIf hm c1
    refine z_iload_n C dX8_isIn_5 rfl 0 rfl ?_
    refine z_iload_n C dX8_isIn_6 rfl 2 rfl ?_
    refine z_icmp_gt (tgt := 14) C dX8_isIn_7 (by decide) (fun c2 => ?_) (fun c2 => ?_)
    · have hm := zIt hm c2
      refine z_iconst (v := (0 : Int32)) C dX8_isIn_14 (by decide) ?_
      exact z_zret0 C hQ (zRt_of hm).1 (zRt_of hm).2 (by decide) dX8_isIn_15
    · have hm := zIf hm c2
      refine z_iconst (v := (1 : Int32)) C dX8_isIn_10 (by decide) ?_
      refine z_goto (tgt := 15) C dX8_isIn_11 (by decide) ?_
      exact z_zret0 C hQ (zRt_of hm).1 (zRt_of hm).2 (by decide) dX8_isIn_15
set_option maxRecDepth 100000 in
set_option maxHeartbeats 4000000 in
theorem c_X8_isIn {h : zH} {ad : Nat → Nat} (hI : zI ad zLM.length) (hst : h.1.stackTraces = false) {n : Nat} {v0 : Int32} {v1 : Int32} {v2 : Int32} {s s9 : zS} {r : Int32} (hm : m_X8_isIn n v0 v1 v2 s = some (r, s9)) : zMR h ad zLM false yX8_isIn wsX8_isIn 0 0 [.int v0, .int v1, .int v2] s (.inl r) s9 :=
  z_start (cc := cX8_isIn) (nL := 3) (ret := (some .boolean)) (own := RX8) (by decide +kernel) rfl rfl hI hst (Nat.le_of_ble_eq_true rfl) (fun G C hQ => w_X8_isIn_e C hQ _ hm)
set_option maxRecDepth 100000 in
set_option maxHeartbeats 4000000 in
theorem w_X8_isLine_e {h : zH} {ad : Nat → Nat} {G : zG} (C : zC h ad zLM 1 G cX8_isLine RX8 wsX8_isLine 1 22) {n : Nat} {r : Int32} {s9 : zS} (hQ : zQ h ad zLM G false (.inl r) s9 (some .boolean)) {v0 : Int32} (s : zS) (hm : m_X8_isLine n v0 s = some (r, s9)) : zV h ad zLM 1 G s 0 [(0, .int v0)] [] := by
  rw [m_X8_isLine] at hm
  refine z_iload_n C dX8_isLine_0 rfl 0 rfl ?_
  refine z_iconst (v := (0 : Int32)) C dX8_isLine_1 (by decide) ?_
  refine z_bipush (v := (15 : Int32)) C dX8_isLine_2 (by decide) ?_
  obtain ⟨x1, s2, q_s2, hm⟩ := zBd_of hm
  refine z_cS (vd := false) C 3 [.int v0, .int (0 : Int32), .int (15 : Int32)] [] (c_X8_isIn (zC_I C) (zC_st C)  q_s2) gX8_isLine_X8_isIn (by decide +kernel) rfl dX8_isLine_4 rfl ⟨Nat.le_of_ble_eq_true rfl, Nat.le_of_ble_eq_true rfl⟩ rfl (Nat.le_of_ble_eq_true rfl) ?_
  obtain ⟨g3, hm⟩ := zGd_of hm
  exact z_zret0 C hQ (zRt_of hm).1 (zRt_of hm).2 g3 dX8_isLine_7
set_option maxRecDepth 100000 in
set_option maxHeartbeats 4000000 in
theorem c_X8_isLine {h : zH} {ad : Nat → Nat} (hI : zI ad zLM.length) (hst : h.1.stackTraces = false) {n : Nat} {v0 : Int32} {s s9 : zS} {r : Int32} (hm : m_X8_isLine n v0 s = some (r, s9)) : zMR h ad zLM false yX8_isLine wsX8_isLine 1 22 [.int v0] s (.inl r) s9 :=
  z_start (cc := cX8_isLine) (nL := 1) (ret := (some .boolean)) (own := RX8) (by decide +kernel) rfl rfl hI hst (Nat.le_of_ble_eq_true rfl) (fun G C hQ => w_X8_isLine_e C hQ _ hm)
set_option maxRecDepth 100000 in
theorem eX8_usesFirst_uX8 : ∀ w ∈ wsX80, w ∈ wsX8_usesFirst := by decide +kernel
set_option maxRecDepth 100000 in
theorem eX8_usesFirst_f7 : Cond.fieldLink RX8 7 RX8 (TX8 0).2.1 (TX8 0).2.2.1 ∈ wsX8_usesFirst := by decide +kernel
set_option maxRecDepth 100000 in
set_option maxHeartbeats 4000000 in
theorem w_X8_usesFirst_e {h : zH} {ad : Nat → Nat} {G : zG} (C : zC h ad zLM 2 G cX8_usesFirst RX8 wsX8_usesFirst 0 0) {n : Nat} {r : Int32} {s9 : zS} (hQ : zQ h ad zLM G false (.inl r) s9 (some .boolean)) {v1 : Int32} (s : zS) (hm : m_X8_usesFirst n v1 s = some (r, s9)) : zV h ad zLM 2 G s 0 [(0, .ref (ad 0)), (1, .int v1)] [] := by
  rw [m_X8_usesFirst] at hm
  refine z_aload_n C dX8_usesFirst_0 rfl 0 rfl ?_
  refine z_getr C kM0 vc8 eX8_usesFirst_uX8 0 (by decide) rfl eX8_usesFirst_f7 rfl dX8_usesFirst_1 ?_
  refine z_iload_n C dX8_usesFirst_4 rfl 1 rfl ?_
  obtain ⟨x1, i_x1, e_x1, hm⟩ := zRd_of hm
  refine z_iald C kM1 i_x1 e_x1 dX8_usesFirst_5 ?_
  refine z_if_eq (tgt := 13) C dX8_usesFirst_6 (by decide) (fun c2 => ?_) (fun c2 => ?_)
  · have hm := zIt hm c2
    refine z_iconst (v := (0 : Int32)) C dX8_usesFirst_13 (by decide) ?_
    exact z_zret0 C hQ (zRt_of hm).1 (zRt_of hm).2 (by decide) dX8_usesFirst_14
  · have hm := zIf hm c2
    refine z_iconst (v := (1 : Int32)) C dX8_usesFirst_9 (by decide) ?_
    refine z_goto (tgt := 14) C dX8_usesFirst_10 (by decide) ?_
    exact z_zret0 C hQ (zRt_of hm).1 (zRt_of hm).2 (by decide) dX8_usesFirst_14
set_option maxRecDepth 100000 in
set_option maxHeartbeats 4000000 in
theorem c_X8_usesFirst {h : zH} {ad : Nat → Nat} (hI : zI ad zLM.length) (hst : h.1.stackTraces = false) {n : Nat} {v1 : Int32} {s s9 : zS} {r : Int32} (hm : m_X8_usesFirst n v1 s = some (r, s9)) : zMR h ad zLM false yX8_usesFirst wsX8_usesFirst 0 0 [.ref (ad 0), .int v1] s (.inl r) s9 :=
  z_start (cc := cX8_usesFirst) (nL := 2) (ret := (some .boolean)) (own := RX8) (by decide +kernel) rfl rfl hI hst (Nat.le_of_ble_eq_true rfl) (fun G C hQ => w_X8_usesFirst_e C hQ _ hm)
set_option maxRecDepth 100000 in
theorem eX8_usesSecond_uX8 : ∀ w ∈ wsX80, w ∈ wsX8_usesSecond := by decide +kernel
set_option maxRecDepth 100000 in
theorem eX8_usesSecond_f7 : Cond.fieldLink RX8 7 RX8 (TX8 0).2.1 (TX8 0).2.2.1 ∈ wsX8_usesSecond := by decide +kernel
set_option maxRecDepth 100000 in
set_option maxHeartbeats 4000000 in
theorem w_X8_usesSecond_j33 {h : zH} {ad : Nat → Nat} {G : zG} (C : zC h ad zLM 3 G cX8_usesSecond RX8 wsX8_usesSecond 0 0) {n : Nat} {r : Int32} {s9 : zS} (hQ : zQ h ad zLM G false (.inl r) s9 (some .boolean))  (s : zS) (hm : m_X8_usesSecond_j33 n s = some (r, s9)) : zV h ad zLM 3 G s 33 [] [] := by
  rw [m_X8_usesSecond_j33] at hm
  refine z_iconst (v := (1 : Int32)) C dX8_usesSecond_33 (by decide) ?_
  refine z_goto (tgt := 38) C dX8_usesSecond_34 (by decide) ?_
  exact z_zret0 C hQ (zRt_of hm).1 (zRt_of hm).2 (by decide) dX8_usesSecond_38
set_option maxRecDepth 100000 in
set_option maxHeartbeats 4000000 in
theorem w_X8_usesSecond_e {h : zH} {ad : Nat → Nat} {G : zG} (C : zC h ad zLM 3 G cX8_usesSecond RX8 wsX8_usesSecond 0 0) {n : Nat} {r : Int32} {s9 : zS} (hQ : zQ h ad zLM G false (.inl r) s9 (some .boolean)) {v1 : Int32} (s : zS) (hm : m_X8_usesSecond n v1 s = some (r, s9)) : zV h ad zLM 3 G s 0 [(0, .ref (ad 0)), (1, .int v1)] [] := by
  rw [m_X8_usesSecond] at hm
  refine z_aload_n C dX8_usesSecond_0 rfl 0 rfl ?_
  refine z_getr C kM0 vc8 eX8_usesSecond_uX8 0 (by decide) rfl eX8_usesSecond_f7 rfl dX8_usesSecond_1 ?_
  refine z_iload_n C dX8_usesSecond_4 rfl 1 rfl ?_
  obtain ⟨x1, i_x1, e_x1, hm⟩ := zRd_of hm
  refine z_iald C kM1 i_x1 e_x1 dX8_usesSecond_5 ?_
  refine z_istore_n (y := x1) (lv' := [(2, .int x1), (0, .ref (ad 0)), (1, .int v1)]) C dX8_usesSecond_6 rfl (by decide) rfl rfl ?_
  refine z_iload_n C dX8_usesSecond_7 rfl 0 rfl ?_
  refine z_iconst (v := (1 : Int32)) C dX8_usesSecond_8 (by decide) ?_
  refine z_icmp_eq (tgt := 33) C dX8_usesSecond_9 (by decide) (fun c2 => ?_) (fun c2 => ?_)
  · have hm := zIt hm c2
    exact z_sub [] rfl (w_X8_usesSecond_j33 C hQ  _ hm)
  · have hm := zIf hm c2
    refine z_iload_n C dX8_usesSecond_12 rfl 0 rfl ?_
    refine z_iconst (v := (2 : Int32)) C dX8_usesSecond_13 (by decide) ?_
    refine z_icmp_eq (tgt := 33) C dX8_usesSecond_14 (by decide) (fun c3 => ?_) (fun c3 => ?_)
    · have hm := zIt hm c3
      exact z_sub [] rfl (w_X8_usesSecond_j33 C hQ  _ hm)
    · have hm := zIf hm c3
      refine z_iload_n C dX8_usesSecond_17 rfl 0 rfl ?_
      refine z_iconst (v := (4 : Int32)) C dX8_usesSecond_18 (by decide) ?_
      refine z_icmp_eq (tgt := 33) C dX8_usesSecond_19 (by decide) (fun c4 => ?_) (fun c4 => ?_)
      · have hm := zIt hm c4
        exact z_sub [] rfl (w_X8_usesSecond_j33 C hQ  _ hm)
      · have hm := zIf hm c4
        refine z_iload_n C dX8_usesSecond_22 rfl 0 rfl ?_
        refine z_iconst (v := (5 : Int32)) C dX8_usesSecond_23 (by decide) ?_
        refine z_icmp_eq (tgt := 33) C dX8_usesSecond_24 (by decide) (fun c5 => ?_) (fun c5 => ?_)
        · have hm := zIt hm c5
          exact z_sub [] rfl (w_X8_usesSecond_j33 C hQ  _ hm)
        · have hm := zIf hm c5
          refine z_iload_n C dX8_usesSecond_27 rfl 0 rfl ?_
          refine z_bipush (v := (8 : Int32)) C dX8_usesSecond_28 (by decide) ?_
          refine z_icmp_ne (tgt := 37) C dX8_usesSecond_30 (by decide) (fun c6 => ?_) (fun c6 => ?_)
          · have hm := zIf hm c6
            refine z_iconst (v := (0 : Int32)) C dX8_usesSecond_37 (by decide) ?_
            exact z_zret0 C hQ (zRt_of hm).1 (zRt_of hm).2 (by decide) dX8_usesSecond_38
          · have hm := zIt hm c6
            exact z_sub [] rfl (w_X8_usesSecond_j33 C hQ  _ hm)
set_option maxRecDepth 100000 in
set_option maxHeartbeats 4000000 in
theorem c_X8_usesSecond {h : zH} {ad : Nat → Nat} (hI : zI ad zLM.length) (hst : h.1.stackTraces = false) {n : Nat} {v1 : Int32} {s s9 : zS} {r : Int32} (hm : m_X8_usesSecond n v1 s = some (r, s9)) : zMR h ad zLM false yX8_usesSecond wsX8_usesSecond 0 0 [.ref (ad 0), .int v1] s (.inl r) s9 :=
  z_start (cc := cX8_usesSecond) (nL := 3) (ret := (some .boolean)) (own := RX8) (by decide +kernel) rfl rfl hI hst (Nat.le_of_ble_eq_true rfl) (fun G C hQ => w_X8_usesSecond_e C hQ _ hm)
set_option maxRecDepth 100000 in
theorem eX8_laysNeeds_uX8 : ∀ w ∈ wsX80, w ∈ wsX8_laysNeeds := by decide +kernel
set_option maxRecDepth 100000 in
theorem eX8_laysNeeds_f47 : Cond.fieldLink RX8 47 RX8 (TX8 16).2.1 (TX8 16).2.2.1 ∈ wsX8_laysNeeds := by decide +kernel
set_option maxRecDepth 100000 in
theorem eX8_laysNeeds_f16 : Cond.fieldLink RX8 16 RX8 (TX8 2).2.1 (TX8 2).2.2.1 ∈ wsX8_laysNeeds := by decide +kernel
set_option maxRecDepth 100000 in
theorem eX8_laysNeeds_f13 : Cond.fieldLink RX8 13 RX8 (TX8 1).2.1 (TX8 1).2.2.1 ∈ wsX8_laysNeeds := by decide +kernel
set_option maxRecDepth 100000 in
set_option maxHeartbeats 4000000 in
theorem w_X8_laysNeeds_j93 {h : zH} {ad : Nat → Nat} {G : zG} (C : zC h ad zLM 5 G cX8_laysNeeds RX8 wsX8_laysNeeds 1 22) {n : Nat} {r : Int32} {s9 : zS} (hQ : zQ h ad zLM G true (.inl r) s9 none) {rec76 : Int32 → zS → Option (Int32 × zS)} {rec84 : Int32 → Int32 → zS → Option (Int32 × zS)} (hrec76 : ∀ (v2 : Int32) (s : zS), rec76 v2 s = some (r, s9) → zV h ad zLM 5 G s 76 [(0, .ref (ad 0)), (2, .int v2)] []) (hrec84 : ∀ (v2 : Int32) (v3 : Int32) (s : zS), rec84 v2 v3 s = some (r, s9) → zV h ad zLM 5 G s 84 [(0, .ref (ad 0)), (2, .int v2), (3, .int v3)] []) : ∀ (f : Nat) (v2 : Int32) (v3 : Int32) (v4 : Int32) (s : zS), m_X8_laysNeeds_j93 rec76 rec84 n f v2 v3 v4 s = some (r, s9) → zV h ad zLM 5 G s 93 [(0, .ref (ad 0)), (2, .int v2), (3, .int v3), (4, .int v4)] [] := by
  intro f
  induction f with
  | zero => intro v2 v3 v4 s hm; simp [m_X8_laysNeeds_j93] at hm
  | succ f ih =>
    intro v2 v3 v4 s hm
    rw [m_X8_laysNeeds_j93] at hm
    refine z_iload C dX8_laysNeeds_93 3 rfl ?_
    refine z_bipush (v := (16 : Int32)) C dX8_laysNeeds_95 (by decide) ?_
    refine z_icmp_ge (tgt := 141) C dX8_laysNeeds_97 (by decide) (fun c1 => ?_) (fun c1 => ?_)
    · have hm := zIt hm c1
      obtain ⟨x2, e_x2, hm⟩ := zLt_of hm
      refine z_iinc (j := 2) (v := x2) (d := (1 : Int32)) (lv' := [(3, .int x2), (0, .ref (ad 0)), (2, .int v2), (4, .int v4)]) C dX8_laysNeeds_141 rfl (by decide) e_x2 (by decide) rfl ?_
      refine z_goto (tgt := 84) C dX8_laysNeeds_144 (by decide) ?_
      exact z_sub [1, 2, 0] rfl (hrec84 _ _ _ hm)
    · have hm := zIf hm c1
      refine z_aload_n C dX8_laysNeeds_100 rfl 0 rfl ?_
      refine z_getr C kM0 vc8 eX8_laysNeeds_uX8 16 (by decide) rfl eX8_laysNeeds_f47 rfl dX8_laysNeeds_101 ?_
      refine z_iload_n C dX8_laysNeeds_104 rfl 2 rfl ?_
      refine z_dup2 C dX8_laysNeeds_105 rfl rfl ?_
      obtain ⟨x3, i_x3, e_x3, hm⟩ := zRd_of hm
      refine z_iald C kM13 i_x3 e_x3 dX8_laysNeeds_106 ?_
      refine z_aload_n C dX8_laysNeeds_107 rfl 0 rfl ?_
      refine z_getr C kM0 vc8 eX8_laysNeeds_uX8 16 (by decide) rfl eX8_laysNeeds_f47 rfl dX8_laysNeeds_108 ?_
      refine z_iload_n C dX8_laysNeeds_111 rfl 2 rfl ?_
      obtain ⟨x4, i_x4, e_x4, hm⟩ := zRd_of hm
      refine z_iald C kM13 i_x4 e_x4 dX8_laysNeeds_112 ?_
      refine z_iload C dX8_laysNeeds_113 3 rfl ?_
      refine z_ishr C dX8_laysNeeds_115 ?_
      refine z_iconst (v := (1 : Int32)) C dX8_laysNeeds_116 (by decide) ?_
      refine z_iand C dX8_laysNeeds_117 ?_
      refine z_iconst (v := (1 : Int32)) C dX8_laysNeeds_118 (by decide) ?_
      refine z_icmp_ne (tgt := 132) C dX8_laysNeeds_119 (by decide) (fun c5 => ?_) (fun c5 => ?_)
      · have hm := zIf hm c5
        refine z_iconst (v := (0 : Int32)) C dX8_laysNeeds_132 (by decide) ?_
        refine z_ior C dX8_laysNeeds_133 ?_
        obtain ⟨s6, i_s6, e_s6, hm⟩ := zWr_of hm
        refine z_iast C kM13 i_s6 e_s6 dX8_laysNeeds_134 ?_
        obtain ⟨x7, e_x7, hm⟩ := zLt_of hm
        refine z_iinc (j := 3) (v := x7) (d := (1 : Int32)) (lv' := [(4, .int x7), (0, .ref (ad 0)), (2, .int v2), (3, .int v3)]) C dX8_laysNeeds_135 rfl (by decide) e_x7 (by decide) rfl ?_
        refine z_goto (tgt := 93) C dX8_laysNeeds_138 (by decide) ?_
        exact z_sub [1, 2, 3, 0] rfl (ih _ _ _ _ hm)
      · have hm := zIt hm c5
        refine z_aload_n C dX8_laysNeeds_122 rfl 0 rfl ?_
        refine z_getr C kM0 vc8 eX8_laysNeeds_uX8 16 (by decide) rfl eX8_laysNeeds_f47 rfl dX8_laysNeeds_123 ?_
        refine z_iload C dX8_laysNeeds_126 3 rfl ?_
        obtain ⟨x8, i_x8, e_x8, hm⟩ := zRd_of hm
        refine z_iald C kM13 i_x8 e_x8 dX8_laysNeeds_128 ?_
        refine z_goto (tgt := 133) C dX8_laysNeeds_129 (by decide) ?_
        refine z_ior C dX8_laysNeeds_133 ?_
        obtain ⟨s9, i_s9, e_s9, hm⟩ := zWr_of hm
        refine z_iast C kM13 i_s9 e_s9 dX8_laysNeeds_134 ?_
        obtain ⟨x10, e_x10, hm⟩ := zLt_of hm
        refine z_iinc (j := 3) (v := x10) (d := (1 : Int32)) (lv' := [(4, .int x10), (0, .ref (ad 0)), (2, .int v2), (3, .int v3)]) C dX8_laysNeeds_135 rfl (by decide) e_x10 (by decide) rfl ?_
        refine z_goto (tgt := 93) C dX8_laysNeeds_138 (by decide) ?_
        exact z_sub [1, 2, 3, 0] rfl (ih _ _ _ _ hm)
set_option maxRecDepth 100000 in
set_option maxHeartbeats 4000000 in
theorem w_X8_laysNeeds_j84 {h : zH} {ad : Nat → Nat} {G : zG} (C : zC h ad zLM 5 G cX8_laysNeeds RX8 wsX8_laysNeeds 1 22) {n : Nat} {r : Int32} {s9 : zS} (hQ : zQ h ad zLM G true (.inl r) s9 none) {rec76 : Int32 → zS → Option (Int32 × zS)} (hrec76 : ∀ (v2 : Int32) (s : zS), rec76 v2 s = some (r, s9) → zV h ad zLM 5 G s 76 [(0, .ref (ad 0)), (2, .int v2)] []) : ∀ (f : Nat) (v2 : Int32) (v3 : Int32) (s : zS), m_X8_laysNeeds_j84 rec76 n f v2 v3 s = some (r, s9) → zV h ad zLM 5 G s 84 [(0, .ref (ad 0)), (2, .int v2), (3, .int v3)] [] := by
  intro f
  induction f with
  | zero => intro v2 v3 s hm; simp [m_X8_laysNeeds_j84] at hm
  | succ f ih =>
    intro v2 v3 s hm
    rw [m_X8_laysNeeds_j84] at hm
    refine z_iload_n C dX8_laysNeeds_84 rfl 2 rfl ?_
    refine z_bipush (v := (16 : Int32)) C dX8_laysNeeds_85 (by decide) ?_
    refine z_icmp_ge (tgt := 147) C dX8_laysNeeds_87 (by decide) (fun c11 => ?_) (fun c11 => ?_)
    · have hm := zIt hm c11
      obtain ⟨x12, e_x12, hm⟩ := zLt_of hm
      refine z_iinc (j := 1) (v := x12) (d := (1 : Int32)) (lv' := [(2, .int x12), (0, .ref (ad 0)), (3, .int v3)]) C dX8_laysNeeds_147 rfl (by decide) e_x12 (by decide) rfl ?_
      refine z_goto (tgt := 76) C dX8_laysNeeds_150 (by decide) ?_
      exact z_sub [1, 0] rfl (hrec76 _ _ hm)
    · have hm := zIf hm c11
      refine z_iconst (v := (0 : Int32)) C dX8_laysNeeds_90 (by decide) ?_
      refine z_istore (y := (0 : Int32)) (lv' := [(4, .int (0 : Int32)), (0, .ref (ad 0)), (2, .int v2), (3, .int v3)]) C dX8_laysNeeds_91 (by decide) rfl rfl ?_
      exact z_sub [1, 2, 3, 0] rfl (w_X8_laysNeeds_j93 C hQ hrec76 ih _ _ _ _ _ hm)
set_option maxRecDepth 100000 in
set_option maxHeartbeats 4000000 in
theorem w_X8_laysNeeds_j76 {h : zH} {ad : Nat → Nat} {G : zG} (C : zC h ad zLM 5 G cX8_laysNeeds RX8 wsX8_laysNeeds 1 22) {n : Nat} {r : Int32} {s9 : zS} (hQ : zQ h ad zLM G true (.inl r) s9 none) : ∀ (f : Nat) (v2 : Int32) (s : zS), m_X8_laysNeeds_j76 n f v2 s = some (r, s9) → zV h ad zLM 5 G s 76 [(0, .ref (ad 0)), (2, .int v2)] [] := by
  intro f
  induction f with
  | zero => intro v2 s hm; simp [m_X8_laysNeeds_j76] at hm
  | succ f ih =>
    intro v2 s hm
    rw [m_X8_laysNeeds_j76] at hm
    refine z_iload_n C dX8_laysNeeds_76 rfl 1 rfl ?_
    refine z_bipush (v := (16 : Int32)) C dX8_laysNeeds_77 (by decide) ?_
    refine z_icmp_ge (tgt := 153) C dX8_laysNeeds_79 (by decide) (fun c13 => ?_) (fun c13 => ?_)
    · have hm := zIt hm c13
      exact z_vret0 C hQ (zRt_of hm).1 (zRt_of hm).2 dX8_laysNeeds_153
    · have hm := zIf hm c13
      refine z_iconst (v := (0 : Int32)) C dX8_laysNeeds_82 (by decide) ?_
      refine z_istore_n (y := (0 : Int32)) (lv' := [(3, .int (0 : Int32)), (0, .ref (ad 0)), (2, .int v2)]) C dX8_laysNeeds_83 rfl (by decide) rfl rfl ?_
      exact z_sub [1, 2, 0] rfl (w_X8_laysNeeds_j84 C hQ ih _ _ _ _ hm)
set_option maxRecDepth 100000 in
set_option maxHeartbeats 4000000 in
theorem w_X8_laysNeeds_j33 {h : zH} {ad : Nat → Nat} {G : zG} (C : zC h ad zLM 5 G cX8_laysNeeds RX8 wsX8_laysNeeds 1 22) {n : Nat} {r : Int32} {s9 : zS} (hQ : zQ h ad zLM G true (.inl r) s9 none) {rec2 : Int32 → Int32 → zS → Option (Int32 × zS)} (hrec2 : ∀ (v1 : Int32) (v2 : Int32) (s : zS), rec2 v1 v2 s = some (r, s9) → zV h ad zLM 5 G s 2 [(0, .ref (ad 0)), (1, .int v1), (2, .int v2)] []) (v1 : Int32) (v2 : Int32) (t1 : Int32) (t2 : Int32) (s : zS) (hm : m_X8_laysNeeds_j33 rec2 n v1 v2 t1 t2 s = some (r, s9)) : zV h ad zLM 5 G s 33 [(0, .ref (ad 0)), (1, .int v1), (2, .int v2)] [.int t2, .int t1, .ref (ad 13)] := by
  rw [m_X8_laysNeeds_j33] at hm
  obtain ⟨s14, i_s14, e_s14, hm⟩ := zWr_of hm
  refine z_iast C kM13 i_s14 e_s14 dX8_laysNeeds_33 ?_
  refine z_aload_n C dX8_laysNeeds_34 rfl 0 rfl ?_
  refine z_getr C kM0 vc8 eX8_laysNeeds_uX8 16 (by decide) rfl eX8_laysNeeds_f47 rfl dX8_laysNeeds_35 ?_
  refine z_iload_n C dX8_laysNeeds_38 rfl 2 rfl ?_
  refine z_dup2 C dX8_laysNeeds_39 rfl rfl ?_
  obtain ⟨x15, i_x15, e_x15, hm⟩ := zRd_of hm
  refine z_iald C kM13 i_x15 e_x15 dX8_laysNeeds_40 ?_
  refine z_aload_n C dX8_laysNeeds_41 rfl 0 rfl ?_
  refine z_iload_n C dX8_laysNeeds_42 rfl 2 rfl ?_
  obtain ⟨x16, s17, q_s17, hm⟩ := zBd_of hm
  refine z_cV (vd := false) (Cn := RX8) (k := 0) C 1 [.int v2] [.int x15, .int v2, .ref (ad 13)] (c_X8_usesSecond (zC_I C) (zC_st C)  q_s17) gX8_laysNeeds_X8_usesSecond (by decide +kernel) kM0 vc8 rfl rfl dX8_laysNeeds_43 rfl ⟨Nat.le_of_ble_eq_true rfl, Nat.le_of_ble_eq_true rfl⟩ rfl (Nat.le_of_ble_eq_true rfl) ?_
  refine z_if_eq (tgt := 65) C dX8_laysNeeds_46 (by decide) (fun c18 => ?_) (fun c18 => ?_)
  · have hm := zIt hm c18
    refine z_iconst (v := (0 : Int32)) C dX8_laysNeeds_65 (by decide) ?_
    refine z_ior C dX8_laysNeeds_66 ?_
    obtain ⟨s19, i_s19, e_s19, hm⟩ := zWr_of hm
    refine z_iast C kM13 i_s19 e_s19 dX8_laysNeeds_67 ?_
    obtain ⟨x20, e_x20, hm⟩ := zLt_of hm
    refine z_iinc (j := 2) (v := x20) (d := (1 : Int32)) (lv' := [(2, .int x20), (0, .ref (ad 0)), (1, .int v1)]) C dX8_laysNeeds_68 rfl (by decide) e_x20 (by decide) rfl ?_
    refine z_goto (tgt := 2) C dX8_laysNeeds_71 (by decide) ?_
    exact z_sub [1, 2, 0] rfl (hrec2 _ _ _ hm)
  · have hm := zIf hm c18
    refine z_iload_n C dX8_laysNeeds_49 rfl 2 rfl ?_
    refine z_iload_n C dX8_laysNeeds_50 rfl 1 rfl ?_
    refine z_icmp_eq (tgt := 65) C dX8_laysNeeds_51 (by decide) (fun c21 => ?_) (fun c21 => ?_)
    · have hm := zIt hm c21
      refine z_iconst (v := (0 : Int32)) C dX8_laysNeeds_65 (by decide) ?_
      refine z_ior C dX8_laysNeeds_66 ?_
      obtain ⟨s22, i_s22, e_s22, hm⟩ := zWr_of hm
      refine z_iast C kM13 i_s22 e_s22 dX8_laysNeeds_67 ?_
      obtain ⟨x23, e_x23, hm⟩ := zLt_of hm
      refine z_iinc (j := 2) (v := x23) (d := (1 : Int32)) (lv' := [(2, .int x23), (0, .ref (ad 0)), (1, .int v1)]) C dX8_laysNeeds_68 rfl (by decide) e_x23 (by decide) rfl ?_
      refine z_goto (tgt := 2) C dX8_laysNeeds_71 (by decide) ?_
      exact z_sub [1, 2, 0] rfl (hrec2 _ _ _ hm)
    · have hm := zIf hm c21
      refine z_iconst (v := (1 : Int32)) C dX8_laysNeeds_54 (by decide) ?_
      refine z_aload_n C dX8_laysNeeds_55 rfl 0 rfl ?_
      refine z_getr C kM0 vc8 eX8_laysNeeds_uX8 2 (by decide) rfl eX8_laysNeeds_f16 rfl dX8_laysNeeds_56 ?_
      refine z_iload_n C dX8_laysNeeds_59 rfl 2 rfl ?_
      obtain ⟨x24, i_x24, e_x24, hm⟩ := zRd_of hm
      refine z_iald C kM3 i_x24 e_x24 dX8_laysNeeds_60 ?_
      refine z_ishl C dX8_laysNeeds_61 ?_
      refine z_goto (tgt := 66) C dX8_laysNeeds_62 (by decide) ?_
      refine z_ior C dX8_laysNeeds_66 ?_
      obtain ⟨s25, i_s25, e_s25, hm⟩ := zWr_of hm
      refine z_iast C kM13 i_s25 e_s25 dX8_laysNeeds_67 ?_
      obtain ⟨x26, e_x26, hm⟩ := zLt_of hm
      refine z_iinc (j := 2) (v := x26) (d := (1 : Int32)) (lv' := [(2, .int x26), (0, .ref (ad 0)), (1, .int v1)]) C dX8_laysNeeds_68 rfl (by decide) e_x26 (by decide) rfl ?_
      refine z_goto (tgt := 2) C dX8_laysNeeds_71 (by decide) ?_
      exact z_sub [1, 2, 0] rfl (hrec2 _ _ _ hm)
set_option maxRecDepth 100000 in
set_option maxHeartbeats 4000000 in
theorem w_X8_laysNeeds_j2 {h : zH} {ad : Nat → Nat} {G : zG} (C : zC h ad zLM 5 G cX8_laysNeeds RX8 wsX8_laysNeeds 1 22) {n : Nat} {r : Int32} {s9 : zS} (hQ : zQ h ad zLM G true (.inl r) s9 none) : ∀ (f : Nat) (v1 : Int32) (v2 : Int32) (s : zS), m_X8_laysNeeds_j2 n f v1 v2 s = some (r, s9) → zV h ad zLM 5 G s 2 [(0, .ref (ad 0)), (1, .int v1), (2, .int v2)] [] := by
  intro f
  induction f with
  | zero => intro v1 v2 s hm; simp [m_X8_laysNeeds_j2] at hm
  | succ f ih =>
    intro v1 v2 s hm
    rw [m_X8_laysNeeds_j2] at hm
    refine z_iload_n C dX8_laysNeeds_2 rfl 2 rfl ?_
    refine z_bipush (v := (16 : Int32)) C dX8_laysNeeds_3 (by decide) ?_
    refine z_icmp_ge (tgt := 74) C dX8_laysNeeds_5 (by decide) (fun c27 => ?_) (fun c27 => ?_)
    · have hm := zIt hm c27
      refine z_iconst (v := (0 : Int32)) C dX8_laysNeeds_74 (by decide) ?_
      refine z_istore_n (y := (0 : Int32)) (lv' := [(2, .int (0 : Int32)), (0, .ref (ad 0)), (1, .int v1)]) C dX8_laysNeeds_75 rfl (by decide) rfl rfl ?_
      exact z_sub [1, 0] rfl (w_X8_laysNeeds_j76 C hQ  _ _ _ hm)
    · have hm := zIf hm c27
      refine z_aload_n C dX8_laysNeeds_8 rfl 0 rfl ?_
      refine z_getr C kM0 vc8 eX8_laysNeeds_uX8 16 (by decide) rfl eX8_laysNeeds_f47 rfl dX8_laysNeeds_9 ?_
      refine z_iload_n C dX8_laysNeeds_12 rfl 2 rfl ?_
      refine z_aload_n C dX8_laysNeeds_13 rfl 0 rfl ?_
      refine z_iload_n C dX8_laysNeeds_14 rfl 2 rfl ?_
      obtain ⟨x28, s29, q_s29, hm⟩ := zBd_of hm
      refine z_cV (vd := false) (Cn := RX8) (k := 0) C 1 [.int v2] [.int v2, .ref (ad 13)] (c_X8_usesFirst (zC_I C) (zC_st C)  q_s29) gX8_laysNeeds_X8_usesFirst (by decide +kernel) kM0 vc8 rfl rfl dX8_laysNeeds_15 rfl ⟨Nat.le_of_ble_eq_true rfl, Nat.le_of_ble_eq_true rfl⟩ rfl (Nat.le_of_ble_eq_true rfl) ?_
      refine z_if_eq (tgt := 32) C dX8_laysNeeds_18 (by decide) (fun c30 => ?_) (fun c30 => ?_)
      · have hm := zIt hm c30
        refine z_iconst (v := (0 : Int32)) C dX8_laysNeeds_32 (by decide) ?_
        exact z_sub [0, 1, 2] rfl (w_X8_laysNeeds_j33 C hQ ih _ _ _ _ _ hm)
      · have hm := zIf hm c30
        refine z_iconst (v := (1 : Int32)) C dX8_laysNeeds_21 (by decide) ?_
        refine z_aload_n C dX8_laysNeeds_22 rfl 0 rfl ?_
        refine z_getr C kM0 vc8 eX8_laysNeeds_uX8 1 (by decide) rfl eX8_laysNeeds_f13 rfl dX8_laysNeeds_23 ?_
        refine z_iload_n C dX8_laysNeeds_26 rfl 2 rfl ?_
        obtain ⟨x31, i_x31, e_x31, hm⟩ := zRd_of hm
        refine z_iald C kM2 i_x31 e_x31 dX8_laysNeeds_27 ?_
        refine z_ishl C dX8_laysNeeds_28 ?_
        refine z_goto (tgt := 33) C dX8_laysNeeds_29 (by decide) ?_
        exact z_sub [0, 1, 2] rfl (w_X8_laysNeeds_j33 C hQ ih _ _ _ _ _ hm)
set_option maxRecDepth 100000 in
set_option maxHeartbeats 4000000 in
theorem w_X8_laysNeeds_e {h : zH} {ad : Nat → Nat} {G : zG} (C : zC h ad zLM 5 G cX8_laysNeeds RX8 wsX8_laysNeeds 1 22) {n : Nat} {r : Int32} {s9 : zS} (hQ : zQ h ad zLM G true (.inl r) s9 none) {v1 : Int32} (s : zS) (hm : m_X8_laysNeeds n v1 s = some (r, s9)) : zV h ad zLM 5 G s 0 [(0, .ref (ad 0)), (1, .int v1)] [] := by
  rw [m_X8_laysNeeds] at hm
  refine z_iconst (v := (0 : Int32)) C dX8_laysNeeds_0 (by decide) ?_
  refine z_istore_n (y := (0 : Int32)) (lv' := [(2, .int (0 : Int32)), (0, .ref (ad 0)), (1, .int v1)]) C dX8_laysNeeds_1 rfl (by decide) rfl rfl ?_
  exact z_sub [1, 2, 0] rfl (w_X8_laysNeeds_j2 C hQ  _ _ _ _ hm)
set_option maxRecDepth 100000 in
set_option maxHeartbeats 4000000 in
theorem c_X8_laysNeeds {h : zH} {ad : Nat → Nat} (hI : zI ad zLM.length) (hst : h.1.stackTraces = false) {n : Nat} {v1 : Int32} {s s9 : zS} {r : Int32} (hm : m_X8_laysNeeds n v1 s = some (r, s9)) : zMR h ad zLM true yX8_laysNeeds wsX8_laysNeeds 1 22 [.ref (ad 0), .int v1] s (.inl r) s9 :=
  z_start (cc := cX8_laysNeeds) (nL := 5) (ret := none) (own := RX8) (by decide +kernel) rfl rfl hI hst (Nat.le_of_ble_eq_true rfl) (fun G C hQ => w_X8_laysNeeds_e C hQ _ hm)
set_option maxRecDepth 100000 in
theorem eX8_depends_uX8 : ∀ w ∈ wsX80, w ∈ wsX8_depends := by decide +kernel
set_option maxRecDepth 100000 in
theorem eX8_depends_f47 : Cond.fieldLink RX8 47 RX8 (TX8 16).2.1 (TX8 16).2.2.1 ∈ wsX8_depends := by decide +kernel
set_option maxRecDepth 100000 in
set_option maxHeartbeats 4000000 in
theorem w_X8_depends_e {h : zH} {ad : Nat → Nat} {G : zG} (C : zC h ad zLM 3 G cX8_depends RX8 wsX8_depends 0 0) {n : Nat} {r : Int32} {s9 : zS} (hQ : zQ h ad zLM G false (.inl r) s9 (some .boolean)) {v1 : Int32} {v2 : Int32} (s : zS) (hm : m_X8_depends n v1 v2 s = some (r, s9)) : zV h ad zLM 3 G s 0 [(0, .ref (ad 0)), (1, .int v1), (2, .int v2)] [] := by
  rw [m_X8_depends] at hm
  refine z_aload_n C dX8_depends_0 rfl 0 rfl ?_
  refine z_getr C kM0 vc8 eX8_depends_uX8 16 (by decide) rfl eX8_depends_f47 rfl dX8_depends_1 ?_
  refine z_iload_n C dX8_depends_4 rfl 1 rfl ?_
  obtain ⟨x1, i_x1, e_x1, hm⟩ := zRd_of hm
  refine z_iald C kM13 i_x1 e_x1 dX8_depends_5 ?_
  refine z_iload_n C dX8_depends_6 rfl 2 rfl ?_
  refine z_ishr C dX8_depends_7 ?_
  refine z_iconst (v := (1 : Int32)) C dX8_depends_8 (by decide) ?_
  refine z_iand C dX8_depends_9 ?_
  refine z_iconst (v := (1 : Int32)) C dX8_depends_10 (by decide) ?_
  refine z_icmp_ne (tgt := 18) C dX8_depends_11 (by decide) (fun c2 => ?_) (fun c2 => ?_)
  · have hm := zIf hm c2
    refine z_iconst (v := (0 : Int32)) C dX8_depends_18 (by decide) ?_
    exact z_zret0 C hQ (zRt_of hm).1 (zRt_of hm).2 (by decide) dX8_depends_19
  · have hm := zIt hm c2
    refine z_iconst (v := (1 : Int32)) C dX8_depends_14 (by decide) ?_
    refine z_goto (tgt := 19) C dX8_depends_15 (by decide) ?_
    exact z_zret0 C hQ (zRt_of hm).1 (zRt_of hm).2 (by decide) dX8_depends_19
set_option maxRecDepth 100000 in
set_option maxHeartbeats 4000000 in
theorem c_X8_depends {h : zH} {ad : Nat → Nat} (hI : zI ad zLM.length) (hst : h.1.stackTraces = false) {n : Nat} {v1 : Int32} {v2 : Int32} {s s9 : zS} {r : Int32} (hm : m_X8_depends n v1 v2 s = some (r, s9)) : zMR h ad zLM false yX8_depends wsX8_depends 0 0 [.ref (ad 0), .int v1, .int v2] s (.inl r) s9 :=
  z_start (cc := cX8_depends) (nL := 3) (ret := (some .boolean)) (own := RX8) (by decide +kernel) rfl rfl hI hst (Nat.le_of_ble_eq_true rfl) (fun G C hQ => w_X8_depends_e C hQ _ hm)
set_option maxRecDepth 100000 in
set_option maxHeartbeats 4000000 in
theorem w_X8_circle_j4 {h : zH} {ad : Nat → Nat} {G : zG} (C : zC h ad zLM 4 G cX8_circle RX8 wsX8_circle 1 22) {n : Nat} {r : Int32} {s9 : zS} (hQ : zQ h ad zLM G false (.inl r) s9 (some .int)) : ∀ (f : Nat) (v1 : Int32) (v2 : Int32) (v3 : Int32) (s : zS), m_X8_circle_j4 n f v1 v2 v3 s = some (r, s9) → zV h ad zLM 4 G s 4 [(0, .ref (ad 0)), (1, .int v1), (2, .int v2), (3, .int v3)] [] := by
  intro f
  induction f with
  | zero => intro v1 v2 v3 s hm; simp [m_X8_circle_j4] at hm
  | succ f ih =>
    intro v1 v2 v3 s hm
    rw [m_X8_circle_j4] at hm
    refine z_iload_n C dX8_circle_4 rfl 3 rfl ?_
    refine z_bipush (v := (16 : Int32)) C dX8_circle_5 (by decide) ?_
    refine z_icmp_ge (tgt := 44) C dX8_circle_7 (by decide) (fun c1 => ?_) (fun c1 => ?_)
    · have hm := zIt hm c1
      refine z_iload_n C dX8_circle_44 rfl 2 rfl ?_
      exact z_iret0 C hQ (zRt_of hm).1 (zRt_of hm).2 dX8_circle_45
    · have hm := zIf hm c1
      refine z_iload_n C dX8_circle_10 rfl 2 rfl ?_
      refine z_aload_n C dX8_circle_11 rfl 0 rfl ?_
      refine z_iload_n C dX8_circle_12 rfl 1 rfl ?_
      refine z_iload_n C dX8_circle_13 rfl 3 rfl ?_
      obtain ⟨x2, s3, q_s3, hm⟩ := zBd_of hm
      refine z_cV (vd := false) (Cn := RX8) (k := 0) C 2 [.int v1, .int v3] [.int v2] (c_X8_depends (zC_I C) (zC_st C)  q_s3) gX8_circle_X8_depends (by decide +kernel) kM0 vc8 rfl rfl dX8_circle_14 rfl ⟨Nat.le_of_ble_eq_true rfl, Nat.le_of_ble_eq_true rfl⟩ rfl (Nat.le_of_ble_eq_true rfl) ?_
      refine z_if_eq (tgt := 35) C dX8_circle_17 (by decide) (fun c4 => ?_) (fun c4 => ?_)
      · have hm := zIt hm c4
        refine z_iconst (v := (0 : Int32)) C dX8_circle_35 (by decide) ?_
        refine z_ior C dX8_circle_36 ?_
        obtain ⟨x5, e_x5, hm⟩ := zLt_of hm
        refine z_istore_n (y := x5) (lv' := [(2, .int x5), (0, .ref (ad 0)), (1, .int v1), (3, .int v3)]) C dX8_circle_37 rfl (by decide) e_x5 rfl ?_
        obtain ⟨x6, e_x6, hm⟩ := zLt_of hm
        refine z_iinc (j := 3) (v := x6) (d := (1 : Int32)) (lv' := [(3, .int x6), (2, .int x5), (0, .ref (ad 0)), (1, .int v1)]) C dX8_circle_38 rfl (by decide) e_x6 (by decide) rfl ?_
        refine z_goto (tgt := 4) C dX8_circle_41 (by decide) ?_
        exact z_sub [2, 3, 1, 0] rfl (ih _ _ _ _ hm)
      · have hm := zIf hm c4
        refine z_aload_n C dX8_circle_20 rfl 0 rfl ?_
        refine z_iload_n C dX8_circle_21 rfl 3 rfl ?_
        refine z_iload_n C dX8_circle_22 rfl 1 rfl ?_
        obtain ⟨x7, s8, q_s8, hm⟩ := zBd_of hm
        refine z_cV (vd := false) (Cn := RX8) (k := 0) C 2 [.int v3, .int v1] [.int v2] (c_X8_depends (zC_I C) (zC_st C)  q_s8) gX8_circle_X8_depends (by decide +kernel) kM0 vc8 rfl rfl dX8_circle_23 rfl ⟨Nat.le_of_ble_eq_true rfl, Nat.le_of_ble_eq_true rfl⟩ rfl (Nat.le_of_ble_eq_true rfl) ?_
        refine z_if_eq (tgt := 35) C dX8_circle_26 (by decide) (fun c9 => ?_) (fun c9 => ?_)
        · have hm := zIt hm c9
          refine z_iconst (v := (0 : Int32)) C dX8_circle_35 (by decide) ?_
          refine z_ior C dX8_circle_36 ?_
          obtain ⟨x10, e_x10, hm⟩ := zLt_of hm
          refine z_istore_n (y := x10) (lv' := [(2, .int x10), (0, .ref (ad 0)), (1, .int v1), (3, .int v3)]) C dX8_circle_37 rfl (by decide) e_x10 rfl ?_
          obtain ⟨x11, e_x11, hm⟩ := zLt_of hm
          refine z_iinc (j := 3) (v := x11) (d := (1 : Int32)) (lv' := [(3, .int x11), (2, .int x10), (0, .ref (ad 0)), (1, .int v1)]) C dX8_circle_38 rfl (by decide) e_x11 (by decide) rfl ?_
          refine z_goto (tgt := 4) C dX8_circle_41 (by decide) ?_
          exact z_sub [2, 3, 1, 0] rfl (ih _ _ _ _ hm)
        · have hm := zIf hm c9
          refine z_iconst (v := (1 : Int32)) C dX8_circle_29 (by decide) ?_
          refine z_iload_n C dX8_circle_30 rfl 3 rfl ?_
          refine z_ishl C dX8_circle_31 ?_
          refine z_goto (tgt := 36) C dX8_circle_32 (by decide) ?_
          refine z_ior C dX8_circle_36 ?_
          obtain ⟨x12, e_x12, hm⟩ := zLt_of hm
          refine z_istore_n (y := x12) (lv' := [(2, .int x12), (0, .ref (ad 0)), (1, .int v1), (3, .int v3)]) C dX8_circle_37 rfl (by decide) e_x12 rfl ?_
          obtain ⟨x13, e_x13, hm⟩ := zLt_of hm
          refine z_iinc (j := 3) (v := x13) (d := (1 : Int32)) (lv' := [(3, .int x13), (2, .int x12), (0, .ref (ad 0)), (1, .int v1)]) C dX8_circle_38 rfl (by decide) e_x13 (by decide) rfl ?_
          refine z_goto (tgt := 4) C dX8_circle_41 (by decide) ?_
          exact z_sub [2, 3, 1, 0] rfl (ih _ _ _ _ hm)
set_option maxRecDepth 100000 in
set_option maxHeartbeats 4000000 in
theorem w_X8_circle_e {h : zH} {ad : Nat → Nat} {G : zG} (C : zC h ad zLM 4 G cX8_circle RX8 wsX8_circle 1 22) {n : Nat} {r : Int32} {s9 : zS} (hQ : zQ h ad zLM G false (.inl r) s9 (some .int)) {v1 : Int32} (s : zS) (hm : m_X8_circle n v1 s = some (r, s9)) : zV h ad zLM 4 G s 0 [(0, .ref (ad 0)), (1, .int v1)] [] := by
  rw [m_X8_circle] at hm
  refine z_iconst (v := (0 : Int32)) C dX8_circle_0 (by decide) ?_
  refine z_istore_n (y := (0 : Int32)) (lv' := [(2, .int (0 : Int32)), (0, .ref (ad 0)), (1, .int v1)]) C dX8_circle_1 rfl (by decide) rfl rfl ?_
  refine z_iconst (v := (0 : Int32)) C dX8_circle_2 (by decide) ?_
  refine z_istore_n (y := (0 : Int32)) (lv' := [(3, .int (0 : Int32)), (2, .int (0 : Int32)), (0, .ref (ad 0)), (1, .int v1)]) C dX8_circle_3 rfl (by decide) rfl rfl ?_
  exact z_sub [2, 3, 1, 0] rfl (w_X8_circle_j4 C hQ  _ _ _ _ _ hm)
set_option maxRecDepth 100000 in
set_option maxHeartbeats 4000000 in
theorem c_X8_circle {h : zH} {ad : Nat → Nat} (hI : zI ad zLM.length) (hst : h.1.stackTraces = false) {n : Nat} {v1 : Int32} {s s9 : zS} {r : Int32} (hm : m_X8_circle n v1 s = some (r, s9)) : zMR h ad zLM false yX8_circle wsX8_circle 1 22 [.ref (ad 0), .int v1] s (.inl r) s9 :=
  z_start (cc := cX8_circle) (nL := 4) (ret := (some .int)) (own := RX8) (by decide +kernel) rfl rfl hI hst (Nat.le_of_ble_eq_true rfl) (fun G C hQ => w_X8_circle_e C hQ _ hm)
set_option maxRecDepth 100000 in
set_option maxHeartbeats 4000000 in
theorem w_X8_turned_e {h : zH} {ad : Nat → Nat} {G : zG} (C : zC h ad zLM 1 G cX8_turned RX8 wsX8_turned 0 0) {n : Nat} {r : Int32} {s9 : zS} (hQ : zQ h ad zLM G false (.inl r) s9 (some .int)) {v0 : Int32} (s : zS) (hm : m_X8_turned n v0 s = some (r, s9)) : zV h ad zLM 1 G s 0 [(0, .int v0)] [] := by
  rw [m_X8_turned] at hm
  refine z_iload_n C dX8_turned_0 rfl 0 rfl ?_
  refine z_iconst (v := (1 : Int32)) C dX8_turned_1 (by decide) ?_
  refine z_iand C dX8_turned_2 ?_
  refine z_iconst (v := (2 : Int32)) C dX8_turned_3 (by decide) ?_
  refine z_imul C dX8_turned_4 ?_
  refine z_iload_n C dX8_turned_5 rfl 0 rfl ?_
  refine z_iconst (v := (1 : Int32)) C dX8_turned_6 (by decide) ?_
  refine z_ishr C dX8_turned_7 ?_
  refine z_iadd C dX8_turned_8 ?_
  exact z_iret0 C hQ (zRt_of hm).1 (zRt_of hm).2 dX8_turned_9
set_option maxRecDepth 100000 in
set_option maxHeartbeats 4000000 in
theorem c_X8_turned {h : zH} {ad : Nat → Nat} (hI : zI ad zLM.length) (hst : h.1.stackTraces = false) {n : Nat} {v0 : Int32} {s s9 : zS} {r : Int32} (hm : m_X8_turned n v0 s = some (r, s9)) : zMR h ad zLM false yX8_turned wsX8_turned 0 0 [.int v0] s (.inl r) s9 :=
  z_start (cc := cX8_turned) (nL := 1) (ret := (some .int)) (own := RX8) (by decide +kernel) rfl rfl hI hst (Nat.le_of_ble_eq_true rfl) (fun G C hQ => w_X8_turned_e C hQ _ hm)
set_option maxRecDepth 100000 in
theorem eX8_isFalling_uX8 : ∀ w ∈ wsX80, w ∈ wsX8_isFalling := by decide +kernel
set_option maxRecDepth 100000 in
theorem eX8_isFalling_f50 : Cond.fieldLink RX8 50 RX8 (TX8 17).2.1 (TX8 17).2.2.1 ∈ wsX8_isFalling := by decide +kernel
set_option maxRecDepth 100000 in
theorem eX8_isFalling_f7 : Cond.fieldLink RX8 7 RX8 (TX8 0).2.1 (TX8 0).2.2.1 ∈ wsX8_isFalling := by decide +kernel
set_option maxRecDepth 100000 in
theorem eX8_isFalling_f16 : Cond.fieldLink RX8 16 RX8 (TX8 2).2.1 (TX8 2).2.2.1 ∈ wsX8_isFalling := by decide +kernel
set_option maxRecDepth 100000 in
theorem eX8_isFalling_f13 : Cond.fieldLink RX8 13 RX8 (TX8 1).2.1 (TX8 1).2.2.1 ∈ wsX8_isFalling := by decide +kernel
set_option maxRecDepth 100000 in
set_option maxHeartbeats 4000000 in
theorem w_X8_isFalling_j199 {h : zH} {ad : Nat → Nat} {G : zG} (C : zC h ad zLM 5 G cX8_isFalling RX8 wsX8_isFalling 1 22) {n : Nat} {r : Int32} {s9 : zS} (hQ : zQ h ad zLM G false (.inl r) s9 (some .boolean)) : ∀ (f : Nat) (v1 : Int32) (v3 : Int32) (v4 : Int32) (s : zS), m_X8_isFalling_j199 n f v1 v3 v4 s = some (r, s9) → zV h ad zLM 5 G s 199 [(0, .ref (ad 0)), (1, .int v1), (3, .int v3), (4, .int v4)] [] := by
  intro f
  induction f with
  | zero => intro v1 v3 v4 s hm; simp [m_X8_isFalling_j199] at hm
  | succ f ih =>
    intro v1 v3 v4 s hm
    rw [m_X8_isFalling_j199] at hm
    refine z_iload C dX8_isFalling_199 3 rfl ?_
    refine z_bipush (v := (16 : Int32)) C dX8_isFalling_201 (by decide) ?_
    refine z_icmp_ge (tgt := 252) C dX8_isFalling_203 (by decide) (fun c1 => ?_) (fun c1 => ?_)
    · have hm := zIt hm c1
      refine z_iload_n C dX8_isFalling_252 rfl 2 rfl ?_
      obtain ⟨g2, hm⟩ := zGd_of hm
      exact z_zret0 C hQ (zRt_of hm).1 (zRt_of hm).2 g2 dX8_isFalling_253
    · have hm := zIf hm c1
      refine z_iload_n C dX8_isFalling_206 rfl 2 rfl ?_
      refine z_aload_n C dX8_isFalling_207 rfl 0 rfl ?_
      refine z_getr C kM0 vc8 eX8_isFalling_uX8 17 (by decide) rfl eX8_isFalling_f50 rfl dX8_isFalling_208 ?_
      refine z_iload C dX8_isFalling_211 3 rfl ?_
      obtain ⟨x3, i_x3, e_x3, hm⟩ := zRd_of hm
      refine z_iald C kM14 i_x3 e_x3 dX8_isFalling_213 ?_
      refine z_iconst (v := (3 : Int32)) C dX8_isFalling_214 (by decide) ?_
      refine z_icmp_eq (tgt := 243) C dX8_isFalling_215 (by decide) (fun c4 => ?_) (fun c4 => ?_)
      · have hm := zIt hm c4
        refine z_iconst (v := (0 : Int32)) C dX8_isFalling_243 (by decide) ?_
        refine z_iand C dX8_isFalling_244 ?_
        obtain ⟨x5, e_x5, hm⟩ := zLt_of hm
        refine z_istore_n (y := x5) (lv' := [(3, .int x5), (0, .ref (ad 0)), (1, .int v1), (4, .int v4)]) C dX8_isFalling_245 rfl (by decide) e_x5 rfl ?_
        obtain ⟨x6, e_x6, hm⟩ := zLt_of hm
        refine z_iinc (j := 3) (v := x6) (d := (1 : Int32)) (lv' := [(4, .int x6), (3, .int x5), (0, .ref (ad 0)), (1, .int v1)]) C dX8_isFalling_246 rfl (by decide) e_x6 (by decide) rfl ?_
        refine z_goto (tgt := 199) C dX8_isFalling_249 (by decide) ?_
        exact z_sub [2, 3, 1, 0] rfl (ih _ _ _ _ hm)
      · have hm := zIf hm c4
        refine z_iload_n C dX8_isFalling_218 rfl 1 rfl ?_
        refine z_iload C dX8_isFalling_219 3 rfl ?_
        refine z_ishr C dX8_isFalling_221 ?_
        refine z_iconst (v := (1 : Int32)) C dX8_isFalling_222 (by decide) ?_
        refine z_iand C dX8_isFalling_223 ?_
        refine z_iconst (v := (1 : Int32)) C dX8_isFalling_224 (by decide) ?_
        refine z_icmp_ne (tgt := 239) C dX8_isFalling_225 (by decide) (fun c7 => ?_) (fun c7 => ?_)
        · have hm := zIf hm c7
          refine z_iconst (v := (1 : Int32)) C dX8_isFalling_239 (by decide) ?_
          refine z_goto (tgt := 244) C dX8_isFalling_240 (by decide) ?_
          refine z_iand C dX8_isFalling_244 ?_
          obtain ⟨x8, e_x8, hm⟩ := zLt_of hm
          refine z_istore_n (y := x8) (lv' := [(3, .int x8), (0, .ref (ad 0)), (1, .int v1), (4, .int v4)]) C dX8_isFalling_245 rfl (by decide) e_x8 rfl ?_
          obtain ⟨x9, e_x9, hm⟩ := zLt_of hm
          refine z_iinc (j := 3) (v := x9) (d := (1 : Int32)) (lv' := [(4, .int x9), (3, .int x8), (0, .ref (ad 0)), (1, .int v1)]) C dX8_isFalling_246 rfl (by decide) e_x9 (by decide) rfl ?_
          refine z_goto (tgt := 199) C dX8_isFalling_249 (by decide) ?_
          exact z_sub [2, 3, 1, 0] rfl (ih _ _ _ _ hm)
        · have hm := zIt hm c7
          refine z_aload_n C dX8_isFalling_228 rfl 0 rfl ?_
          refine z_iload C dX8_isFalling_229 3 rfl ?_
          refine z_iload C dX8_isFalling_231 3 rfl ?_
          obtain ⟨x10, s11, q_s11, hm⟩ := zBd_of hm
          refine z_cV (vd := false) (Cn := RX8) (k := 0) C 2 [.int v4, .int v4] [.int v3] (c_X8_depends (zC_I C) (zC_st C)  q_s11) gX8_isFalling_X8_depends (by decide +kernel) kM0 vc8 rfl rfl dX8_isFalling_233 rfl ⟨Nat.le_of_ble_eq_true rfl, Nat.le_of_ble_eq_true rfl⟩ rfl (Nat.le_of_ble_eq_true rfl) ?_
          refine z_if_ne (tgt := 243) C dX8_isFalling_236 (by decide) (fun c12 => ?_) (fun c12 => ?_)
          · have hm := zIf hm c12
            refine z_iconst (v := (0 : Int32)) C dX8_isFalling_243 (by decide) ?_
            refine z_iand C dX8_isFalling_244 ?_
            obtain ⟨x13, e_x13, hm⟩ := zLt_of hm
            refine z_istore_n (y := x13) (lv' := [(3, .int x13), (0, .ref (ad 0)), (1, .int v1), (4, .int v4)]) C dX8_isFalling_245 rfl (by decide) e_x13 rfl ?_
            obtain ⟨x14, e_x14, hm⟩ := zLt_of hm
            refine z_iinc (j := 3) (v := x14) (d := (1 : Int32)) (lv' := [(4, .int x14), (3, .int x13), (0, .ref (ad 0)), (1, .int v1)]) C dX8_isFalling_246 rfl (by decide) e_x14 (by decide) rfl ?_
            refine z_goto (tgt := 199) C dX8_isFalling_249 (by decide) ?_
            exact z_sub [2, 3, 1, 0] rfl (ih _ _ _ _ hm)
          · have hm := zIt hm c12
            refine z_iconst (v := (1 : Int32)) C dX8_isFalling_239 (by decide) ?_
            refine z_goto (tgt := 244) C dX8_isFalling_240 (by decide) ?_
            refine z_iand C dX8_isFalling_244 ?_
            obtain ⟨x15, e_x15, hm⟩ := zLt_of hm
            refine z_istore_n (y := x15) (lv' := [(3, .int x15), (0, .ref (ad 0)), (1, .int v1), (4, .int v4)]) C dX8_isFalling_245 rfl (by decide) e_x15 rfl ?_
            obtain ⟨x16, e_x16, hm⟩ := zLt_of hm
            refine z_iinc (j := 3) (v := x16) (d := (1 : Int32)) (lv' := [(4, .int x16), (3, .int x15), (0, .ref (ad 0)), (1, .int v1)]) C dX8_isFalling_246 rfl (by decide) e_x16 (by decide) rfl ?_
            refine z_goto (tgt := 199) C dX8_isFalling_249 (by decide) ?_
            exact z_sub [2, 3, 1, 0] rfl (ih _ _ _ _ hm)
set_option maxRecDepth 100000 in
set_option maxHeartbeats 4000000 in
theorem w_X8_isFalling_j161 {h : zH} {ad : Nat → Nat} {G : zG} (C : zC h ad zLM 5 G cX8_isFalling RX8 wsX8_isFalling 1 22) {n : Nat} {r : Int32} {s9 : zS} (hQ : zQ h ad zLM G false (.inl r) s9 (some .boolean)) {rec32 : Int32 → Int32 → Int32 → zS → Option (Int32 × zS)} {rec41 : Int32 → Int32 → Int32 → Int32 → zS → Option (Int32 × zS)} (hrec32 : ∀ (v1 : Int32) (v2 : Int32) (v3 : Int32) (s : zS), rec32 v1 v2 v3 s = some (r, s9) → zV h ad zLM 5 G s 32 [(0, .ref (ad 0)), (1, .int v1), (2, .int v2), (3, .int v3)] []) (hrec41 : ∀ (v1 : Int32) (v2 : Int32) (v3 : Int32) (v4 : Int32) (s : zS), rec41 v1 v2 v3 v4 s = some (r, s9) → zV h ad zLM 5 G s 41 [(0, .ref (ad 0)), (1, .int v1), (2, .int v2), (3, .int v3), (4, .int v4)] []) (v1 : Int32) (v2 : Int32) (v3 : Int32) (v4 : Int32) (t1 : Int32) (t2 : Int32) (t3 : Int32) (s : zS) (hm : m_X8_isFalling_j161 rec32 rec41 n v1 v2 v3 v4 t1 t2 t3 s = some (r, s9)) : zV h ad zLM 5 G s 161 [(0, .ref (ad 0)), (1, .int v1), (2, .int v2), (3, .int v3), (4, .int v4)] [.int t3, .int t2, .int t1, .ref (ad 14)] := by
  rw [m_X8_isFalling_j161] at hm
  refine z_ior C dX8_isFalling_161 ?_
  obtain ⟨s17, i_s17, e_s17, hm⟩ := zWr_of hm
  refine z_iast C kM14 i_s17 e_s17 dX8_isFalling_162 ?_
  obtain ⟨x18, e_x18, hm⟩ := zLt_of hm
  refine z_iinc (j := 4) (v := x18) (d := (1 : Int32)) (lv' := [(4, .int x18), (0, .ref (ad 0)), (1, .int v1), (2, .int v2), (3, .int v3)]) C dX8_isFalling_163 rfl (by decide) e_x18 (by decide) rfl ?_
  refine z_goto (tgt := 41) C dX8_isFalling_166 (by decide) ?_
  exact z_sub [1, 2, 3, 4, 0] rfl (hrec41 _ _ _ _ _ hm)
set_option maxRecDepth 100000 in
set_option maxHeartbeats 4000000 in
theorem w_X8_isFalling_j97 {h : zH} {ad : Nat → Nat} {G : zG} (C : zC h ad zLM 5 G cX8_isFalling RX8 wsX8_isFalling 1 22) {n : Nat} {r : Int32} {s9 : zS} (hQ : zQ h ad zLM G false (.inl r) s9 (some .boolean)) {rec32 : Int32 → Int32 → Int32 → zS → Option (Int32 × zS)} {rec41 : Int32 → Int32 → Int32 → Int32 → zS → Option (Int32 × zS)} (hrec32 : ∀ (v1 : Int32) (v2 : Int32) (v3 : Int32) (s : zS), rec32 v1 v2 v3 s = some (r, s9) → zV h ad zLM 5 G s 32 [(0, .ref (ad 0)), (1, .int v1), (2, .int v2), (3, .int v3)] []) (hrec41 : ∀ (v1 : Int32) (v2 : Int32) (v3 : Int32) (v4 : Int32) (s : zS), rec41 v1 v2 v3 v4 s = some (r, s9) → zV h ad zLM 5 G s 41 [(0, .ref (ad 0)), (1, .int v1), (2, .int v2), (3, .int v3), (4, .int v4)] []) (v1 : Int32) (v2 : Int32) (v3 : Int32) (v4 : Int32) (t1 : Int32) (t2 : Int32) (t3 : Int32) (s : zS) (hm : m_X8_isFalling_j97 rec32 rec41 n v1 v2 v3 v4 t1 t2 t3 s = some (r, s9)) : zV h ad zLM 5 G s 97 [(0, .ref (ad 0)), (1, .int v1), (2, .int v2), (3, .int v3), (4, .int v4)] [.int t3, .int t2, .int t1, .ref (ad 14)] := by
  rw [m_X8_isFalling_j97] at hm
  refine z_ior C dX8_isFalling_97 ?_
  obtain ⟨s19, i_s19, e_s19, hm⟩ := zWr_of hm
  refine z_iast C kM14 i_s19 e_s19 dX8_isFalling_98 ?_
  refine z_aload_n C dX8_isFalling_99 rfl 0 rfl ?_
  refine z_getr C kM0 vc8 eX8_isFalling_uX8 17 (by decide) rfl eX8_isFalling_f50 rfl dX8_isFalling_100 ?_
  refine z_iload C dX8_isFalling_103 4 rfl ?_
  refine z_dup2 C dX8_isFalling_105 rfl rfl ?_
  obtain ⟨x20, i_x20, e_x20, hm⟩ := zRd_of hm
  refine z_iald C kM14 i_x20 e_x20 dX8_isFalling_106 ?_
  refine z_aload_n C dX8_isFalling_107 rfl 0 rfl ?_
  refine z_iload C dX8_isFalling_108 4 rfl ?_
  obtain ⟨x21, s22, q_s22, hm⟩ := zBd_of hm
  refine z_cV (vd := false) (Cn := RX8) (k := 0) C 1 [.int v4] [.int x20, .int v4, .ref (ad 14)] (c_X8_usesSecond (zC_I C) (zC_st C)  q_s22) gX8_isFalling_X8_usesSecond (by decide +kernel) kM0 vc8 rfl rfl dX8_isFalling_110 rfl ⟨Nat.le_of_ble_eq_true rfl, Nat.le_of_ble_eq_true rfl⟩ rfl (Nat.le_of_ble_eq_true rfl) ?_
  refine z_if_eq (tgt := 160) C dX8_isFalling_113 (by decide) (fun c23 => ?_) (fun c23 => ?_)
  · have hm := zIt hm c23
    refine z_iconst (v := (0 : Int32)) C dX8_isFalling_160 (by decide) ?_
    exact z_sub [0, 1, 2, 3, 4] rfl (w_X8_isFalling_j161 C hQ hrec32 hrec41 _ _ _ _ _ _ _ _ hm)
  · have hm := zIf hm c23
    refine z_aload_n C dX8_isFalling_116 rfl 0 rfl ?_
    refine z_getr C kM0 vc8 eX8_isFalling_uX8 0 (by decide) rfl eX8_isFalling_f7 rfl dX8_isFalling_117 ?_
    refine z_iload C dX8_isFalling_120 4 rfl ?_
    obtain ⟨x24, i_x24, e_x24, hm⟩ := zRd_of hm
    refine z_iald C kM1 i_x24 e_x24 dX8_isFalling_122 ?_
    refine z_iconst (v := (2 : Int32)) C dX8_isFalling_123 (by decide) ?_
    refine z_icmp_ne (tgt := 145) C dX8_isFalling_124 (by decide) (fun c25 => ?_) (fun c25 => ?_)
    · have hm := zIf hm c25
      refine z_aload_n C dX8_isFalling_145 rfl 0 rfl ?_
      refine z_getr C kM0 vc8 eX8_isFalling_uX8 17 (by decide) rfl eX8_isFalling_f50 rfl dX8_isFalling_146 ?_
      refine z_aload_n C dX8_isFalling_149 rfl 0 rfl ?_
      refine z_getr C kM0 vc8 eX8_isFalling_uX8 2 (by decide) rfl eX8_isFalling_f16 rfl dX8_isFalling_150 ?_
      refine z_iload C dX8_isFalling_153 4 rfl ?_
      obtain ⟨x26, i_x26, e_x26, hm⟩ := zRd_of hm
      refine z_iald C kM3 i_x26 e_x26 dX8_isFalling_155 ?_
      obtain ⟨x27, i_x27, e_x27, hm⟩ := zRd_of hm
      refine z_iald C kM14 i_x27 e_x27 dX8_isFalling_156 ?_
      refine z_goto (tgt := 161) C dX8_isFalling_157 (by decide) ?_
      exact z_sub [0, 1, 2, 3, 4] rfl (w_X8_isFalling_j161 C hQ hrec32 hrec41 _ _ _ _ _ _ _ _ hm)
    · have hm := zIt hm c25
      refine z_aload_n C dX8_isFalling_127 rfl 0 rfl ?_
      refine z_getr C kM0 vc8 eX8_isFalling_uX8 17 (by decide) rfl eX8_isFalling_f50 rfl dX8_isFalling_128 ?_
      refine z_aload_n C dX8_isFalling_131 rfl 0 rfl ?_
      refine z_getr C kM0 vc8 eX8_isFalling_uX8 2 (by decide) rfl eX8_isFalling_f16 rfl dX8_isFalling_132 ?_
      refine z_iload C dX8_isFalling_135 4 rfl ?_
      obtain ⟨x28, i_x28, e_x28, hm⟩ := zRd_of hm
      refine z_iald C kM3 i_x28 e_x28 dX8_isFalling_137 ?_
      obtain ⟨x29, i_x29, e_x29, hm⟩ := zRd_of hm
      refine z_iald C kM14 i_x29 e_x29 dX8_isFalling_138 ?_
      obtain ⟨x30, s31, q_s31, hm⟩ := zBd_of hm
      refine z_cS (vd := false) C 1 [.int x29] [.int x20, .int v4, .ref (ad 14)] (c_X8_turned (zC_I C) (zC_st C)  q_s31) gX8_isFalling_X8_turned (by decide +kernel) rfl dX8_isFalling_139 rfl ⟨Nat.le_of_ble_eq_true rfl, Nat.le_of_ble_eq_true rfl⟩ rfl (Nat.le_of_ble_eq_true rfl) ?_
      refine z_goto (tgt := 161) C dX8_isFalling_142 (by decide) ?_
      exact z_sub [0, 1, 2, 3, 4] rfl (w_X8_isFalling_j161 C hQ hrec32 hrec41 _ _ _ _ _ _ _ _ hm)
set_option maxRecDepth 100000 in
set_option maxHeartbeats 4000000 in
theorem w_X8_isFalling_j41 {h : zH} {ad : Nat → Nat} {G : zG} (C : zC h ad zLM 5 G cX8_isFalling RX8 wsX8_isFalling 1 22) {n : Nat} {r : Int32} {s9 : zS} (hQ : zQ h ad zLM G false (.inl r) s9 (some .boolean)) {rec32 : Int32 → Int32 → Int32 → zS → Option (Int32 × zS)} (hrec32 : ∀ (v1 : Int32) (v2 : Int32) (v3 : Int32) (s : zS), rec32 v1 v2 v3 s = some (r, s9) → zV h ad zLM 5 G s 32 [(0, .ref (ad 0)), (1, .int v1), (2, .int v2), (3, .int v3)] []) : ∀ (f : Nat) (v1 : Int32) (v2 : Int32) (v3 : Int32) (v4 : Int32) (s : zS), m_X8_isFalling_j41 rec32 n f v1 v2 v3 v4 s = some (r, s9) → zV h ad zLM 5 G s 41 [(0, .ref (ad 0)), (1, .int v1), (2, .int v2), (3, .int v3), (4, .int v4)] [] := by
  intro f
  induction f with
  | zero => intro v1 v2 v3 v4 s hm; simp [m_X8_isFalling_j41] at hm
  | succ f ih =>
    intro v1 v2 v3 v4 s hm
    rw [m_X8_isFalling_j41] at hm
    refine z_iload C dX8_isFalling_41 4 rfl ?_
    refine z_bipush (v := (16 : Int32)) C dX8_isFalling_43 (by decide) ?_
    refine z_icmp_ge (tgt := 169) C dX8_isFalling_45 (by decide) (fun c32 => ?_) (fun c32 => ?_)
    · have hm := zIt hm c32
      obtain ⟨x33, e_x33, hm⟩ := zLt_of hm
      refine z_iinc (j := 3) (v := x33) (d := (1 : Int32)) (lv' := [(3, .int x33), (0, .ref (ad 0)), (1, .int v1), (2, .int v2), (4, .int v4)]) C dX8_isFalling_169 rfl (by decide) e_x33 (by decide) rfl ?_
      refine z_goto (tgt := 32) C dX8_isFalling_172 (by decide) ?_
      exact z_sub [1, 2, 3, 0] rfl (hrec32 _ _ _ _ hm)
    · have hm := zIf hm c32
      refine z_iload_n C dX8_isFalling_48 rfl 1 rfl ?_
      refine z_iload C dX8_isFalling_49 4 rfl ?_
      refine z_ishr C dX8_isFalling_51 ?_
      refine z_iconst (v := (1 : Int32)) C dX8_isFalling_52 (by decide) ?_
      refine z_iand C dX8_isFalling_53 ?_
      refine z_iconst (v := (1 : Int32)) C dX8_isFalling_54 (by decide) ?_
      refine z_icmp_ne (tgt := 163) C dX8_isFalling_55 (by decide) (fun c34 => ?_) (fun c34 => ?_)
      · have hm := zIf hm c34
        obtain ⟨x35, e_x35, hm⟩ := zLt_of hm
        refine z_iinc (j := 4) (v := x35) (d := (1 : Int32)) (lv' := [(4, .int x35), (0, .ref (ad 0)), (1, .int v1), (2, .int v2), (3, .int v3)]) C dX8_isFalling_163 rfl (by decide) e_x35 (by decide) rfl ?_
        refine z_goto (tgt := 41) C dX8_isFalling_166 (by decide) ?_
        exact z_sub [1, 2, 3, 4, 0] rfl (ih _ _ _ _ _ hm)
      · have hm := zIt hm c34
        refine z_iload C dX8_isFalling_58 4 rfl ?_
        refine z_iload_n C dX8_isFalling_60 rfl 2 rfl ?_
        refine z_icmp_eq (tgt := 163) C dX8_isFalling_61 (by decide) (fun c36 => ?_) (fun c36 => ?_)
        · have hm := zIt hm c36
          obtain ⟨x37, e_x37, hm⟩ := zLt_of hm
          refine z_iinc (j := 4) (v := x37) (d := (1 : Int32)) (lv' := [(4, .int x37), (0, .ref (ad 0)), (1, .int v1), (2, .int v2), (3, .int v3)]) C dX8_isFalling_163 rfl (by decide) e_x37 (by decide) rfl ?_
          refine z_goto (tgt := 41) C dX8_isFalling_166 (by decide) ?_
          exact z_sub [1, 2, 3, 4, 0] rfl (ih _ _ _ _ _ hm)
        · have hm := zIf hm c36
          refine z_aload_n C dX8_isFalling_64 rfl 0 rfl ?_
          refine z_getr C kM0 vc8 eX8_isFalling_uX8 17 (by decide) rfl eX8_isFalling_f50 rfl dX8_isFalling_65 ?_
          refine z_iload C dX8_isFalling_68 4 rfl ?_
          refine z_dup2 C dX8_isFalling_70 rfl rfl ?_
          obtain ⟨x38, i_x38, e_x38, hm⟩ := zRd_of hm
          refine z_iald C kM14 i_x38 e_x38 dX8_isFalling_71 ?_
          refine z_aload_n C dX8_isFalling_72 rfl 0 rfl ?_
          refine z_iload C dX8_isFalling_73 4 rfl ?_
          obtain ⟨x39, s40, q_s40, hm⟩ := zBd_of hm
          refine z_cV (vd := false) (Cn := RX8) (k := 0) C 1 [.int v4] [.int x38, .int v4, .ref (ad 14)] (c_X8_usesFirst (zC_I C) (zC_st C)  q_s40) gX8_isFalling_X8_usesFirst (by decide +kernel) kM0 vc8 rfl rfl dX8_isFalling_75 rfl ⟨Nat.le_of_ble_eq_true rfl, Nat.le_of_ble_eq_true rfl⟩ rfl (Nat.le_of_ble_eq_true rfl) ?_
          refine z_if_eq (tgt := 96) C dX8_isFalling_78 (by decide) (fun c41 => ?_) (fun c41 => ?_)
          · have hm := zIt hm c41
            refine z_iconst (v := (0 : Int32)) C dX8_isFalling_96 (by decide) ?_
            exact z_sub [0, 1, 2, 3, 4] rfl (w_X8_isFalling_j97 C hQ hrec32 ih _ _ _ _ _ _ _ _ hm)
          · have hm := zIf hm c41
            refine z_aload_n C dX8_isFalling_81 rfl 0 rfl ?_
            refine z_getr C kM0 vc8 eX8_isFalling_uX8 17 (by decide) rfl eX8_isFalling_f50 rfl dX8_isFalling_82 ?_
            refine z_aload_n C dX8_isFalling_85 rfl 0 rfl ?_
            refine z_getr C kM0 vc8 eX8_isFalling_uX8 1 (by decide) rfl eX8_isFalling_f13 rfl dX8_isFalling_86 ?_
            refine z_iload C dX8_isFalling_89 4 rfl ?_
            obtain ⟨x42, i_x42, e_x42, hm⟩ := zRd_of hm
            refine z_iald C kM2 i_x42 e_x42 dX8_isFalling_91 ?_
            obtain ⟨x43, i_x43, e_x43, hm⟩ := zRd_of hm
            refine z_iald C kM14 i_x43 e_x43 dX8_isFalling_92 ?_
            refine z_goto (tgt := 97) C dX8_isFalling_93 (by decide) ?_
            exact z_sub [0, 1, 2, 3, 4] rfl (w_X8_isFalling_j97 C hQ hrec32 ih _ _ _ _ _ _ _ _ hm)
set_option maxRecDepth 100000 in
set_option maxHeartbeats 4000000 in
theorem w_X8_isFalling_j32 {h : zH} {ad : Nat → Nat} {G : zG} (C : zC h ad zLM 5 G cX8_isFalling RX8 wsX8_isFalling 1 22) {n : Nat} {r : Int32} {s9 : zS} (hQ : zQ h ad zLM G false (.inl r) s9 (some .boolean)) : ∀ (f : Nat) (v1 : Int32) (v2 : Int32) (v3 : Int32) (s : zS), m_X8_isFalling_j32 n f v1 v2 v3 s = some (r, s9) → zV h ad zLM 5 G s 32 [(0, .ref (ad 0)), (1, .int v1), (2, .int v2), (3, .int v3)] [] := by
  intro f
  induction f with
  | zero => intro v1 v2 v3 s hm; simp [m_X8_isFalling_j32] at hm
  | succ f ih =>
    intro v1 v2 v3 s hm
    rw [m_X8_isFalling_j32] at hm
    refine z_iload_n C dX8_isFalling_32 rfl 3 rfl ?_
    refine z_bipush (v := (16 : Int32)) C dX8_isFalling_33 (by decide) ?_
    refine z_icmp_ge (tgt := 175) C dX8_isFalling_35 (by decide) (fun c44 => ?_) (fun c44 => ?_)
    · have hm := zIt hm c44
      refine z_aload_n C dX8_isFalling_175 rfl 0 rfl ?_
      refine z_getr C kM0 vc8 eX8_isFalling_uX8 17 (by decide) rfl eX8_isFalling_f50 rfl dX8_isFalling_176 ?_
      refine z_aload_n C dX8_isFalling_179 rfl 0 rfl ?_
      refine z_getr C kM0 vc8 eX8_isFalling_uX8 2 (by decide) rfl eX8_isFalling_f16 rfl dX8_isFalling_180 ?_
      refine z_iload_n C dX8_isFalling_183 rfl 2 rfl ?_
      obtain ⟨x45, i_x45, e_x45, hm⟩ := zRd_of hm
      refine z_iald C kM3 i_x45 e_x45 dX8_isFalling_184 ?_
      obtain ⟨x46, i_x46, e_x46, hm⟩ := zRd_of hm
      refine z_iald C kM14 i_x46 e_x46 dX8_isFalling_185 ?_
      refine z_iconst (v := (2 : Int32)) C dX8_isFalling_186 (by decide) ?_
      refine z_icmp_ne (tgt := 194) C dX8_isFalling_187 (by decide) (fun c47 => ?_) (fun c47 => ?_)
      · have hm := zIf hm c47
        refine z_iconst (v := (0 : Int32)) C dX8_isFalling_194 (by decide) ?_
        refine z_istore_n (y := (0 : Int32)) (lv' := [(3, .int (0 : Int32)), (0, .ref (ad 0)), (1, .int v1), (2, .int v2)]) C dX8_isFalling_195 rfl (by decide) rfl rfl ?_
        refine z_iconst (v := (0 : Int32)) C dX8_isFalling_196 (by decide) ?_
        refine z_istore (y := (0 : Int32)) (lv' := [(4, .int (0 : Int32)), (3, .int (0 : Int32)), (0, .ref (ad 0)), (1, .int v1), (2, .int v2)]) C dX8_isFalling_197 (by decide) rfl rfl ?_
        exact z_sub [2, 3, 1, 0] rfl (w_X8_isFalling_j199 C hQ  _ _ _ _ _ hm)
      · have hm := zIt hm c47
        refine z_iconst (v := (1 : Int32)) C dX8_isFalling_190 (by decide) ?_
        refine z_goto (tgt := 195) C dX8_isFalling_191 (by decide) ?_
        refine z_istore_n (y := (1 : Int32)) (lv' := [(3, .int (1 : Int32)), (0, .ref (ad 0)), (1, .int v1), (2, .int v2)]) C dX8_isFalling_195 rfl (by decide) rfl rfl ?_
        refine z_iconst (v := (0 : Int32)) C dX8_isFalling_196 (by decide) ?_
        refine z_istore (y := (0 : Int32)) (lv' := [(4, .int (0 : Int32)), (3, .int (1 : Int32)), (0, .ref (ad 0)), (1, .int v1), (2, .int v2)]) C dX8_isFalling_197 (by decide) rfl rfl ?_
        exact z_sub [2, 3, 1, 0] rfl (w_X8_isFalling_j199 C hQ  _ _ _ _ _ hm)
    · have hm := zIf hm c44
      refine z_iconst (v := (0 : Int32)) C dX8_isFalling_38 (by decide) ?_
      refine z_istore (y := (0 : Int32)) (lv' := [(4, .int (0 : Int32)), (0, .ref (ad 0)), (1, .int v1), (2, .int v2), (3, .int v3)]) C dX8_isFalling_39 (by decide) rfl rfl ?_
      exact z_sub [1, 2, 3, 4, 0] rfl (w_X8_isFalling_j41 C hQ ih _ _ _ _ _ _ hm)
set_option maxRecDepth 100000 in
set_option maxHeartbeats 4000000 in
theorem w_X8_isFalling_j2 {h : zH} {ad : Nat → Nat} {G : zG} (C : zC h ad zLM 5 G cX8_isFalling RX8 wsX8_isFalling 1 22) {n : Nat} {r : Int32} {s9 : zS} (hQ : zQ h ad zLM G false (.inl r) s9 (some .boolean)) : ∀ (f : Nat) (v1 : Int32) (v2 : Int32) (v3 : Int32) (s : zS), m_X8_isFalling_j2 n f v1 v2 v3 s = some (r, s9) → zV h ad zLM 5 G s 2 [(0, .ref (ad 0)), (1, .int v1), (2, .int v2), (3, .int v3)] [] := by
  intro f
  induction f with
  | zero => intro v1 v2 v3 s hm; simp [m_X8_isFalling_j2] at hm
  | succ f ih =>
    intro v1 v2 v3 s hm
    rw [m_X8_isFalling_j2] at hm
    refine z_iload_n C dX8_isFalling_2 rfl 3 rfl ?_
    refine z_bipush (v := (16 : Int32)) C dX8_isFalling_3 (by decide) ?_
    refine z_icmp_ge (tgt := 30) C dX8_isFalling_5 (by decide) (fun c48 => ?_) (fun c48 => ?_)
    · have hm := zIt hm c48
      refine z_iconst (v := (0 : Int32)) C dX8_isFalling_30 (by decide) ?_
      refine z_istore_n (y := (0 : Int32)) (lv' := [(3, .int (0 : Int32)), (0, .ref (ad 0)), (1, .int v1), (2, .int v2)]) C dX8_isFalling_31 rfl (by decide) rfl rfl ?_
      exact z_sub [1, 2, 3, 0] rfl (w_X8_isFalling_j32 C hQ  _ _ _ _ _ hm)
    · have hm := zIf hm c48
      refine z_aload_n C dX8_isFalling_8 rfl 0 rfl ?_
      refine z_getr C kM0 vc8 eX8_isFalling_uX8 17 (by decide) rfl eX8_isFalling_f50 rfl dX8_isFalling_9 ?_
      refine z_iload_n C dX8_isFalling_12 rfl 3 rfl ?_
      refine z_iload_n C dX8_isFalling_13 rfl 3 rfl ?_
      refine z_iload_n C dX8_isFalling_14 rfl 2 rfl ?_
      refine z_icmp_ne (tgt := 22) C dX8_isFalling_15 (by decide) (fun c49 => ?_) (fun c49 => ?_)
      · have hm := zIf hm c49
        refine z_iconst (v := (0 : Int32)) C dX8_isFalling_22 (by decide) ?_
        obtain ⟨s50, i_s50, e_s50, hm⟩ := zWr_of hm
        refine z_iast C kM14 i_s50 e_s50 dX8_isFalling_23 ?_
        obtain ⟨x51, e_x51, hm⟩ := zLt_of hm
        refine z_iinc (j := 3) (v := x51) (d := (1 : Int32)) (lv' := [(3, .int x51), (0, .ref (ad 0)), (1, .int v1), (2, .int v2)]) C dX8_isFalling_24 rfl (by decide) e_x51 (by decide) rfl ?_
        refine z_goto (tgt := 2) C dX8_isFalling_27 (by decide) ?_
        exact z_sub [1, 2, 3, 0] rfl (ih _ _ _ _ hm)
      · have hm := zIt hm c49
        refine z_iconst (v := (1 : Int32)) C dX8_isFalling_18 (by decide) ?_
        refine z_goto (tgt := 23) C dX8_isFalling_19 (by decide) ?_
        obtain ⟨s52, i_s52, e_s52, hm⟩ := zWr_of hm
        refine z_iast C kM14 i_s52 e_s52 dX8_isFalling_23 ?_
        obtain ⟨x53, e_x53, hm⟩ := zLt_of hm
        refine z_iinc (j := 3) (v := x53) (d := (1 : Int32)) (lv' := [(3, .int x53), (0, .ref (ad 0)), (1, .int v1), (2, .int v2)]) C dX8_isFalling_24 rfl (by decide) e_x53 (by decide) rfl ?_
        refine z_goto (tgt := 2) C dX8_isFalling_27 (by decide) ?_
        exact z_sub [1, 2, 3, 0] rfl (ih _ _ _ _ hm)
set_option maxRecDepth 100000 in
set_option maxHeartbeats 4000000 in
theorem w_X8_isFalling_e {h : zH} {ad : Nat → Nat} {G : zG} (C : zC h ad zLM 5 G cX8_isFalling RX8 wsX8_isFalling 1 22) {n : Nat} {r : Int32} {s9 : zS} (hQ : zQ h ad zLM G false (.inl r) s9 (some .boolean)) {v1 : Int32} {v2 : Int32} (s : zS) (hm : m_X8_isFalling n v1 v2 s = some (r, s9)) : zV h ad zLM 5 G s 0 [(0, .ref (ad 0)), (1, .int v1), (2, .int v2)] [] := by
  rw [m_X8_isFalling] at hm
  refine z_iconst (v := (0 : Int32)) C dX8_isFalling_0 (by decide) ?_
  refine z_istore_n (y := (0 : Int32)) (lv' := [(3, .int (0 : Int32)), (0, .ref (ad 0)), (1, .int v1), (2, .int v2)]) C dX8_isFalling_1 rfl (by decide) rfl rfl ?_
  exact z_sub [1, 2, 3, 0] rfl (w_X8_isFalling_j2 C hQ  _ _ _ _ _ hm)
set_option maxRecDepth 100000 in
set_option maxHeartbeats 4000000 in
theorem c_X8_isFalling {h : zH} {ad : Nat → Nat} (hI : zI ad zLM.length) (hst : h.1.stackTraces = false) {n : Nat} {v1 : Int32} {v2 : Int32} {s s9 : zS} {r : Int32} (hm : m_X8_isFalling n v1 v2 s = some (r, s9)) : zMR h ad zLM false yX8_isFalling wsX8_isFalling 1 22 [.ref (ad 0), .int v1, .int v2] s (.inl r) s9 :=
  z_start (cc := cX8_isFalling) (nL := 5) (ret := (some .boolean)) (own := RX8) (by decide +kernel) rfl rfl hI hst (Nat.le_of_ble_eq_true rfl) (fun G C hQ => w_X8_isFalling_e C hQ _ hm)
set_option maxRecDepth 100000 in
theorem eX8_isAllowed_uX8 : ∀ w ∈ wsX80, w ∈ wsX8_isAllowed := by decide +kernel
set_option maxRecDepth 100000 in
theorem eX8_isAllowed_f13 : Cond.fieldLink RX8 13 RX8 (TX8 1).2.1 (TX8 1).2.2.1 ∈ wsX8_isAllowed := by decide +kernel
set_option maxRecDepth 100000 in
theorem eX8_isAllowed_f7 : Cond.fieldLink RX8 7 RX8 (TX8 0).2.1 (TX8 0).2.2.1 ∈ wsX8_isAllowed := by decide +kernel
set_option maxRecDepth 100000 in
set_option maxHeartbeats 4000000 in
theorem w_X8_isAllowed_j136 {h : zH} {ad : Nat → Nat} {G : zG} (C : zC h ad zLM 8 G cX8_isAllowed RX8 wsX8_isAllowed 2 46) {n : Nat} {r : Int32} {s9 : zS} (hQ : zQ h ad zLM G false (.inl r) s9 (some .boolean)) {rec4 : Int32 → Int32 → zS → Option (Int32 × zS)} (hrec4 : ∀ (v1 : Int32) (v2 : Int32) (s : zS), rec4 v1 v2 s = some (r, s9) → zV h ad zLM 8 G s 4 [(0, .ref (ad 0)), (1, .int v1), (2, .int v2)] []) (v2 : Int32) (v3 : Int32) (v4 : Int32) (v5 : Int32) (t0 : Int32) (t1 : Int32) (s : zS) (hm : m_X8_isAllowed_j136 rec4 n v2 v3 v4 v5 t0 t1 s = some (r, s9)) : zV h ad zLM 8 G s 136 [(0, .ref (ad 0)), (2, .int v2), (3, .int v3), (4, .int v4), (5, .int v5)] [.int t1, .int t0] := by
  rw [m_X8_isAllowed_j136] at hm
  refine z_iand C dX8_isAllowed_136 ?_
  obtain ⟨x1, e_x1, hm⟩ := zLt_of hm
  refine z_istore_n (y := x1) (lv' := [(1, .int x1), (0, .ref (ad 0)), (2, .int v2), (3, .int v3), (4, .int v4), (5, .int v5)]) C dX8_isAllowed_137 rfl (by decide) e_x1 rfl ?_
  refine z_aload_n C dX8_isAllowed_138 rfl 1 rfl ?_
  refine z_iload C dX8_isAllowed_139 5 rfl ?_
  obtain ⟨x2, s3, q_s3, hm⟩ := zBd_of hm
  refine z_cV (vd := true) (Cn := RX8) (k := 0) C 1 [.int v5] [] (c_X8_laysNeeds (zC_I C) (zC_st C)  q_s3) gX8_isAllowed_X8_laysNeeds (by decide +kernel) kM0 vc8 rfl rfl dX8_isAllowed_141 rfl ⟨Nat.le_of_ble_eq_true rfl, Nat.le_of_ble_eq_true rfl⟩ rfl (Nat.le_of_ble_eq_true rfl) ?_
  refine z_iload_n C dX8_isAllowed_144 rfl 0 rfl ?_
  refine z_iload C dX8_isAllowed_145 4 rfl ?_
  refine z_iconst (v := (1 : Int32)) C dX8_isAllowed_147 (by decide) ?_
  refine z_icmp_ne (tgt := 165) C dX8_isAllowed_148 (by decide) (fun c4 => ?_) (fun c4 => ?_)
  · have hm := zIf hm c4
    refine z_iconst (v := (0 : Int32)) C dX8_isAllowed_165 (by decide) ?_
    refine z_iand C dX8_isAllowed_166 ?_
    obtain ⟨x5, e_x5, hm⟩ := zLt_of hm
    refine z_istore_n (y := x5) (lv' := [(1, .int x5), (0, .ref (ad 0)), (2, .int v2), (3, .int v3), (4, .int v4), (5, .int v5)]) C dX8_isAllowed_167 rfl (by decide) e_x5 rfl ?_
    obtain ⟨x6, e_x6, hm⟩ := zLt_of hm
    refine z_iinc (j := 2) (v := x6) (d := (1 : Int32)) (lv' := [(2, .int x6), (1, .int x5), (0, .ref (ad 0)), (3, .int v3), (4, .int v4), (5, .int v5)]) C dX8_isAllowed_168 rfl (by decide) e_x6 (by decide) rfl ?_
    refine z_goto (tgt := 4) C dX8_isAllowed_171 (by decide) ?_
    exact z_sub [2, 1, 0] rfl (hrec4 _ _ _ hm)
  · have hm := zIt hm c4
    refine z_aload_n C dX8_isAllowed_151 rfl 1 rfl ?_
    refine z_iload_n C dX8_isAllowed_152 rfl 3 rfl ?_
    refine z_iload C dX8_isAllowed_153 5 rfl ?_
    obtain ⟨x7, s8, q_s8, hm⟩ := zBd_of hm
    refine z_cV (vd := false) (Cn := RX8) (k := 0) C 2 [.int v3, .int v5] [.int x1] (c_X8_isFalling (zC_I C) (zC_st C)  q_s8) gX8_isAllowed_X8_isFalling (by decide +kernel) kM0 vc8 rfl rfl dX8_isAllowed_155 rfl ⟨Nat.le_of_ble_eq_true rfl, Nat.le_of_ble_eq_true rfl⟩ rfl (Nat.le_of_ble_eq_true rfl) ?_
    refine z_if_eq (tgt := 165) C dX8_isAllowed_158 (by decide) (fun c9 => ?_) (fun c9 => ?_)
    · have hm := zIt hm c9
      refine z_iconst (v := (0 : Int32)) C dX8_isAllowed_165 (by decide) ?_
      refine z_iand C dX8_isAllowed_166 ?_
      obtain ⟨x10, e_x10, hm⟩ := zLt_of hm
      refine z_istore_n (y := x10) (lv' := [(1, .int x10), (0, .ref (ad 0)), (2, .int v2), (3, .int v3), (4, .int v4), (5, .int v5)]) C dX8_isAllowed_167 rfl (by decide) e_x10 rfl ?_
      obtain ⟨x11, e_x11, hm⟩ := zLt_of hm
      refine z_iinc (j := 2) (v := x11) (d := (1 : Int32)) (lv' := [(2, .int x11), (1, .int x10), (0, .ref (ad 0)), (3, .int v3), (4, .int v4), (5, .int v5)]) C dX8_isAllowed_168 rfl (by decide) e_x11 (by decide) rfl ?_
      refine z_goto (tgt := 4) C dX8_isAllowed_171 (by decide) ?_
      exact z_sub [2, 1, 0] rfl (hrec4 _ _ _ hm)
    · have hm := zIf hm c9
      refine z_iconst (v := (1 : Int32)) C dX8_isAllowed_161 (by decide) ?_
      refine z_goto (tgt := 166) C dX8_isAllowed_162 (by decide) ?_
      refine z_iand C dX8_isAllowed_166 ?_
      obtain ⟨x12, e_x12, hm⟩ := zLt_of hm
      refine z_istore_n (y := x12) (lv' := [(1, .int x12), (0, .ref (ad 0)), (2, .int v2), (3, .int v3), (4, .int v4), (5, .int v5)]) C dX8_isAllowed_167 rfl (by decide) e_x12 rfl ?_
      obtain ⟨x13, e_x13, hm⟩ := zLt_of hm
      refine z_iinc (j := 2) (v := x13) (d := (1 : Int32)) (lv' := [(2, .int x13), (1, .int x12), (0, .ref (ad 0)), (3, .int v3), (4, .int v4), (5, .int v5)]) C dX8_isAllowed_168 rfl (by decide) e_x13 (by decide) rfl ?_
      refine z_goto (tgt := 4) C dX8_isAllowed_171 (by decide) ?_
      exact z_sub [2, 1, 0] rfl (hrec4 _ _ _ hm)
set_option maxRecDepth 100000 in
set_option maxHeartbeats 4000000 in
theorem w_X8_isAllowed_j87 {h : zH} {ad : Nat → Nat} {G : zG} (C : zC h ad zLM 8 G cX8_isAllowed RX8 wsX8_isAllowed 2 46) {n : Nat} {r : Int32} {s9 : zS} (hQ : zQ h ad zLM G false (.inl r) s9 (some .boolean)) {rec4 : Int32 → Int32 → zS → Option (Int32 × zS)} {rec39 : Int32 → Int32 → Int32 → Int32 → Int32 → Int32 → zS → Option (Int32 × zS)} (hrec4 : ∀ (v1 : Int32) (v2 : Int32) (s : zS), rec4 v1 v2 s = some (r, s9) → zV h ad zLM 8 G s 4 [(0, .ref (ad 0)), (1, .int v1), (2, .int v2)] []) (hrec39 : ∀ (v1 : Int32) (v2 : Int32) (v3 : Int32) (v4 : Int32) (v5 : Int32) (v6 : Int32) (s : zS), rec39 v1 v2 v3 v4 v5 v6 s = some (r, s9) → zV h ad zLM 8 G s 39 [(0, .ref (ad 0)), (1, .int v1), (2, .int v2), (3, .int v3), (4, .int v4), (5, .int v5), (6, .int v6)] []) (v1 : Int32) (v2 : Int32) (v3 : Int32) (v5 : Int32) (v6 : Int32) (v7 : Int32) (t0 : Int32) (t1 : Int32) (s : zS) (hm : m_X8_isAllowed_j87 rec4 rec39 n v1 v2 v3 v5 v6 v7 t0 t1 s = some (r, s9)) : zV h ad zLM 8 G s 87 [(0, .ref (ad 0)), (1, .int v1), (2, .int v2), (3, .int v3), (5, .int v5), (6, .int v6), (7, .int v7)] [.int t1, .int t0] := by
  rw [m_X8_isAllowed_j87] at hm
  refine z_iadd C dX8_isAllowed_87 ?_
  obtain ⟨x14, e_x14, hm⟩ := zLt_of hm
  refine z_istore (y := x14) (lv' := [(4, .int x14), (0, .ref (ad 0)), (1, .int v1), (2, .int v2), (3, .int v3), (5, .int v5), (6, .int v6), (7, .int v7)]) C dX8_isAllowed_88 (by decide) e_x14 rfl ?_
  refine z_iload C dX8_isAllowed_90 7 rfl ?_
  refine z_if_eq (tgt := 100) C dX8_isAllowed_92 (by decide) (fun c15 => ?_) (fun c15 => ?_)
  · have hm := zIt hm c15
    refine z_iload C dX8_isAllowed_100 5 rfl ?_
    refine z_istore (y := v5) (lv' := [(5, .int v5), (4, .int x14), (0, .ref (ad 0)), (1, .int v1), (2, .int v2), (3, .int v3), (6, .int v6), (7, .int v7)]) C dX8_isAllowed_102 (by decide) rfl rfl ?_
    obtain ⟨x16, e_x16, hm⟩ := zLt_of hm
    refine z_iinc (j := 6) (v := x16) (d := (1 : Int32)) (lv' := [(6, .int x16), (5, .int v5), (4, .int x14), (0, .ref (ad 0)), (1, .int v1), (2, .int v2), (3, .int v3), (7, .int v7)]) C dX8_isAllowed_104 rfl (by decide) e_x16 (by decide) rfl ?_
    refine z_goto (tgt := 39) C dX8_isAllowed_107 (by decide) ?_
    exact z_sub [3, 4, 5, 6, 2, 1, 0] rfl (hrec39 _ _ _ _ _ _ _ hm)
  · have hm := zIf hm c15
    refine z_iload C dX8_isAllowed_95 6 rfl ?_
    refine z_goto (tgt := 102) C dX8_isAllowed_97 (by decide) ?_
    refine z_istore (y := v6) (lv' := [(5, .int v6), (4, .int x14), (0, .ref (ad 0)), (1, .int v1), (2, .int v2), (3, .int v3), (6, .int v6), (7, .int v7)]) C dX8_isAllowed_102 (by decide) rfl rfl ?_
    obtain ⟨x17, e_x17, hm⟩ := zLt_of hm
    refine z_iinc (j := 6) (v := x17) (d := (1 : Int32)) (lv' := [(6, .int x17), (5, .int v6), (4, .int x14), (0, .ref (ad 0)), (1, .int v1), (2, .int v2), (3, .int v3), (7, .int v7)]) C dX8_isAllowed_104 rfl (by decide) e_x17 (by decide) rfl ?_
    refine z_goto (tgt := 39) C dX8_isAllowed_107 (by decide) ?_
    exact z_sub [3, 4, 5, 6, 2, 1, 0] rfl (hrec39 _ _ _ _ _ _ _ hm)
set_option maxRecDepth 100000 in
set_option maxHeartbeats 4000000 in
theorem w_X8_isAllowed_j73 {h : zH} {ad : Nat → Nat} {G : zG} (C : zC h ad zLM 8 G cX8_isAllowed RX8 wsX8_isAllowed 2 46) {n : Nat} {r : Int32} {s9 : zS} (hQ : zQ h ad zLM G false (.inl r) s9 (some .boolean)) {rec4 : Int32 → Int32 → zS → Option (Int32 × zS)} {rec39 : Int32 → Int32 → Int32 → Int32 → Int32 → Int32 → zS → Option (Int32 × zS)} (hrec4 : ∀ (v1 : Int32) (v2 : Int32) (s : zS), rec4 v1 v2 s = some (r, s9) → zV h ad zLM 8 G s 4 [(0, .ref (ad 0)), (1, .int v1), (2, .int v2)] []) (hrec39 : ∀ (v1 : Int32) (v2 : Int32) (v3 : Int32) (v4 : Int32) (v5 : Int32) (v6 : Int32) (s : zS), rec39 v1 v2 v3 v4 v5 v6 s = some (r, s9) → zV h ad zLM 8 G s 39 [(0, .ref (ad 0)), (1, .int v1), (2, .int v2), (3, .int v3), (4, .int v4), (5, .int v5), (6, .int v6)] []) (v1 : Int32) (v2 : Int32) (v3 : Int32) (v4 : Int32) (v5 : Int32) (v6 : Int32) (t0 : Int32) (s : zS) (hm : m_X8_isAllowed_j73 rec4 rec39 n v1 v2 v3 v4 v5 v6 t0 s = some (r, s9)) : zV h ad zLM 8 G s 73 [(0, .ref (ad 0)), (1, .int v1), (2, .int v2), (3, .int v3), (4, .int v4), (5, .int v5), (6, .int v6)] [.int t0] := by
  rw [m_X8_isAllowed_j73] at hm
  refine z_istore (y := t0) (lv' := [(7, .int t0), (0, .ref (ad 0)), (1, .int v1), (2, .int v2), (3, .int v3), (4, .int v4), (5, .int v5), (6, .int v6)]) C dX8_isAllowed_73 (by decide) rfl rfl ?_
  refine z_iload C dX8_isAllowed_75 5 rfl ?_
  refine z_iload C dX8_isAllowed_77 0 rfl ?_
  refine z_if_eq (tgt := 86) C dX8_isAllowed_79 (by decide) (fun c18 => ?_) (fun c18 => ?_)
  · have hm := zIt hm c18
    refine z_iconst (v := (0 : Int32)) C dX8_isAllowed_86 (by decide) ?_
    exact z_sub [1, 2, 3, 4, 6, 7, 0] rfl (w_X8_isAllowed_j87 C hQ hrec4 hrec39 _ _ _ _ _ _ _ _ _ hm)
  · have hm := zIf hm c18
    refine z_iconst (v := (1 : Int32)) C dX8_isAllowed_82 (by decide) ?_
    refine z_goto (tgt := 87) C dX8_isAllowed_83 (by decide) ?_
    exact z_sub [1, 2, 3, 4, 6, 7, 0] rfl (w_X8_isAllowed_j87 C hQ hrec4 hrec39 _ _ _ _ _ _ _ _ _ hm)
set_option maxRecDepth 100000 in
set_option maxHeartbeats 4000000 in
theorem w_X8_isAllowed_j39 {h : zH} {ad : Nat → Nat} {G : zG} (C : zC h ad zLM 8 G cX8_isAllowed RX8 wsX8_isAllowed 2 46) {n : Nat} {r : Int32} {s9 : zS} (hQ : zQ h ad zLM G false (.inl r) s9 (some .boolean)) {rec4 : Int32 → Int32 → zS → Option (Int32 × zS)} (hrec4 : ∀ (v1 : Int32) (v2 : Int32) (s : zS), rec4 v1 v2 s = some (r, s9) → zV h ad zLM 8 G s 4 [(0, .ref (ad 0)), (1, .int v1), (2, .int v2)] []) : ∀ (f : Nat) (v1 : Int32) (v2 : Int32) (v3 : Int32) (v4 : Int32) (v5 : Int32) (v6 : Int32) (s : zS), m_X8_isAllowed_j39 rec4 n f v1 v2 v3 v4 v5 v6 s = some (r, s9) → zV h ad zLM 8 G s 39 [(0, .ref (ad 0)), (1, .int v1), (2, .int v2), (3, .int v3), (4, .int v4), (5, .int v5), (6, .int v6)] [] := by
  intro f
  induction f with
  | zero => intro v1 v2 v3 v4 v5 v6 s hm; simp [m_X8_isAllowed_j39] at hm
  | succ f ih =>
    intro v1 v2 v3 v4 v5 v6 s hm
    rw [m_X8_isAllowed_j39] at hm
    refine z_iload C dX8_isAllowed_39 6 rfl ?_
    refine z_bipush (v := (16 : Int32)) C dX8_isAllowed_41 (by decide) ?_
    refine z_icmp_ge (tgt := 110) C dX8_isAllowed_43 (by decide) (fun c19 => ?_) (fun c19 => ?_)
    · have hm := zIt hm c19
      refine z_iload_n C dX8_isAllowed_110 rfl 1 rfl ?_
      refine z_iload C dX8_isAllowed_111 4 rfl ?_
      refine z_iconst (v := (1 : Int32)) C dX8_isAllowed_113 (by decide) ?_
      refine z_icmp_ne (tgt := 135) C dX8_isAllowed_114 (by decide) (fun c20 => ?_) (fun c20 => ?_)
      · have hm := zIf hm c20
        refine z_iconst (v := (0 : Int32)) C dX8_isAllowed_135 (by decide) ?_
        exact z_sub [0, 2, 3, 4, 5] rfl (w_X8_isAllowed_j136 C hQ hrec4 _ _ _ _ _ _ _ hm)
      · have hm := zIt hm c20
        refine z_iload_n C dX8_isAllowed_117 rfl 3 rfl ?_
        refine z_aload_n C dX8_isAllowed_118 rfl 0 rfl ?_
        refine z_getr C kM0 vc8 eX8_isAllowed_uX8 1 (by decide) rfl eX8_isAllowed_f13 rfl dX8_isAllowed_119 ?_
        refine z_iload C dX8_isAllowed_122 5 rfl ?_
        obtain ⟨x21, i_x21, e_x21, hm⟩ := zRd_of hm
        refine z_iald C kM2 i_x21 e_x21 dX8_isAllowed_124 ?_
        refine z_ishr C dX8_isAllowed_125 ?_
        refine z_iconst (v := (1 : Int32)) C dX8_isAllowed_126 (by decide) ?_
        refine z_iand C dX8_isAllowed_127 ?_
        refine z_if_ne (tgt := 135) C dX8_isAllowed_128 (by decide) (fun c22 => ?_) (fun c22 => ?_)
        · have hm := zIf hm c22
          refine z_iconst (v := (0 : Int32)) C dX8_isAllowed_135 (by decide) ?_
          exact z_sub [0, 2, 3, 4, 5] rfl (w_X8_isAllowed_j136 C hQ hrec4 _ _ _ _ _ _ _ hm)
        · have hm := zIt hm c22
          refine z_iconst (v := (1 : Int32)) C dX8_isAllowed_131 (by decide) ?_
          refine z_goto (tgt := 136) C dX8_isAllowed_132 (by decide) ?_
          exact z_sub [0, 2, 3, 4, 5] rfl (w_X8_isAllowed_j136 C hQ hrec4 _ _ _ _ _ _ _ hm)
    · have hm := zIf hm c19
      refine z_iload_n C dX8_isAllowed_46 rfl 3 rfl ?_
      refine z_iload C dX8_isAllowed_47 6 rfl ?_
      refine z_ishr C dX8_isAllowed_49 ?_
      refine z_iconst (v := (1 : Int32)) C dX8_isAllowed_50 (by decide) ?_
      refine z_iand C dX8_isAllowed_51 ?_
      refine z_iconst (v := (1 : Int32)) C dX8_isAllowed_52 (by decide) ?_
      refine z_icmp_ne (tgt := 72) C dX8_isAllowed_53 (by decide) (fun c23 => ?_) (fun c23 => ?_)
      · have hm := zIf hm c23
        refine z_iconst (v := (0 : Int32)) C dX8_isAllowed_72 (by decide) ?_
        exact z_sub [0, 1, 2, 3, 4, 5, 6] rfl (w_X8_isAllowed_j73 C hQ hrec4 ih _ _ _ _ _ _ _ _ hm)
      · have hm := zIt hm c23
        refine z_aload_n C dX8_isAllowed_56 rfl 0 rfl ?_
        refine z_getr C kM0 vc8 eX8_isAllowed_uX8 0 (by decide) rfl eX8_isAllowed_f7 rfl dX8_isAllowed_57 ?_
        refine z_iload C dX8_isAllowed_60 6 rfl ?_
        obtain ⟨x24, i_x24, e_x24, hm⟩ := zRd_of hm
        refine z_iald C kM1 i_x24 e_x24 dX8_isAllowed_62 ?_
        refine z_bipush (v := (8 : Int32)) C dX8_isAllowed_63 (by decide) ?_
        refine z_icmp_ne (tgt := 72) C dX8_isAllowed_65 (by decide) (fun c25 => ?_) (fun c25 => ?_)
        · have hm := zIf hm c25
          refine z_iconst (v := (0 : Int32)) C dX8_isAllowed_72 (by decide) ?_
          exact z_sub [0, 1, 2, 3, 4, 5, 6] rfl (w_X8_isAllowed_j73 C hQ hrec4 ih _ _ _ _ _ _ _ _ hm)
        · have hm := zIt hm c25
          refine z_iconst (v := (1 : Int32)) C dX8_isAllowed_68 (by decide) ?_
          refine z_goto (tgt := 73) C dX8_isAllowed_69 (by decide) ?_
          exact z_sub [0, 1, 2, 3, 4, 5, 6] rfl (w_X8_isAllowed_j73 C hQ hrec4 ih _ _ _ _ _ _ _ _ hm)
set_option maxRecDepth 100000 in
set_option maxHeartbeats 4000000 in
theorem w_X8_isAllowed_j4 {h : zH} {ad : Nat → Nat} {G : zG} (C : zC h ad zLM 8 G cX8_isAllowed RX8 wsX8_isAllowed 2 46) {n : Nat} {r : Int32} {s9 : zS} (hQ : zQ h ad zLM G false (.inl r) s9 (some .boolean)) : ∀ (f : Nat) (v1 : Int32) (v2 : Int32) (s : zS), m_X8_isAllowed_j4 n f v1 v2 s = some (r, s9) → zV h ad zLM 8 G s 4 [(0, .ref (ad 0)), (1, .int v1), (2, .int v2)] [] := by
  intro f
  induction f with
  | zero => intro v1 v2 s hm; simp [m_X8_isAllowed_j4] at hm
  | succ f ih =>
    intro v1 v2 s hm
    rw [m_X8_isAllowed_j4] at hm
    refine z_iload_n C dX8_isAllowed_4 rfl 2 rfl ?_
    refine z_bipush (v := (16 : Int32)) C dX8_isAllowed_5 (by decide) ?_
    refine z_icmp_ge (tgt := 174) C dX8_isAllowed_7 (by decide) (fun c26 => ?_) (fun c26 => ?_)
    · have hm := zIt hm c26
      refine z_iload_n C dX8_isAllowed_174 rfl 1 rfl ?_
      obtain ⟨g27, hm⟩ := zGd_of hm
      exact z_zret0 C hQ (zRt_of hm).1 (zRt_of hm).2 g27 dX8_isAllowed_175
    · have hm := zIf hm c26
      refine z_aload_n C dX8_isAllowed_10 rfl 0 rfl ?_
      refine z_iconst (v := (-1 : Int32)) C dX8_isAllowed_11 (by decide) ?_
      obtain ⟨x28, s29, q_s29, hm⟩ := zBd_of hm
      refine z_cV (vd := true) (Cn := RX8) (k := 0) C 1 [.int (-1 : Int32)] [] (c_X8_laysNeeds (zC_I C) (zC_st C)  q_s29) gX8_isAllowed_X8_laysNeeds (by decide +kernel) kM0 vc8 rfl rfl dX8_isAllowed_12 rfl ⟨Nat.le_of_ble_eq_true rfl, Nat.le_of_ble_eq_true rfl⟩ rfl (Nat.le_of_ble_eq_true rfl) ?_
      refine z_aload_n C dX8_isAllowed_15 rfl 0 rfl ?_
      refine z_iload_n C dX8_isAllowed_16 rfl 2 rfl ?_
      refine z_iload_n C dX8_isAllowed_17 rfl 2 rfl ?_
      obtain ⟨x30, s31, q_s31, hm⟩ := zBd_of hm
      refine z_cV (vd := false) (Cn := RX8) (k := 0) C 2 [.int v2, .int v2] [] (c_X8_depends (zC_I C) (zC_st C)  q_s31) gX8_isAllowed_X8_depends (by decide +kernel) kM0 vc8 rfl rfl dX8_isAllowed_18 rfl ⟨Nat.le_of_ble_eq_true rfl, Nat.le_of_ble_eq_true rfl⟩ rfl (Nat.le_of_ble_eq_true rfl) ?_
      refine z_if_eq (tgt := 168) C dX8_isAllowed_21 (by decide) (fun c32 => ?_) (fun c32 => ?_)
      · have hm := zIt hm c32
        obtain ⟨x33, e_x33, hm⟩ := zLt_of hm
        refine z_iinc (j := 2) (v := x33) (d := (1 : Int32)) (lv' := [(2, .int x33), (0, .ref (ad 0)), (1, .int v1)]) C dX8_isAllowed_168 rfl (by decide) e_x33 (by decide) rfl ?_
        refine z_goto (tgt := 4) C dX8_isAllowed_171 (by decide) ?_
        exact z_sub [1, 2, 0] rfl (ih _ _ _ hm)
      · have hm := zIf hm c32
        refine z_aload_n C dX8_isAllowed_24 rfl 0 rfl ?_
        refine z_iload_n C dX8_isAllowed_25 rfl 2 rfl ?_
        obtain ⟨x34, s35, q_s35, hm⟩ := zBd_of hm
        refine z_cV (vd := false) (Cn := RX8) (k := 0) C 1 [.int v2] [] (c_X8_circle (zC_I C) (zC_st C)  q_s35) gX8_isAllowed_X8_circle (by decide +kernel) kM0 vc8 rfl rfl dX8_isAllowed_26 rfl ⟨Nat.le_of_ble_eq_true rfl, Nat.le_of_ble_eq_true rfl⟩ rfl (Nat.le_of_ble_eq_true rfl) ?_
        refine z_istore_n (y := x34) (lv' := [(3, .int x34), (0, .ref (ad 0)), (1, .int v1), (2, .int v2)]) C dX8_isAllowed_29 rfl (by decide) rfl rfl ?_
        refine z_iconst (v := (0 : Int32)) C dX8_isAllowed_30 (by decide) ?_
        refine z_istore (y := (0 : Int32)) (lv' := [(4, .int (0 : Int32)), (3, .int x34), (0, .ref (ad 0)), (1, .int v1), (2, .int v2)]) C dX8_isAllowed_31 (by decide) rfl rfl ?_
        refine z_iconst (v := (0 : Int32)) C dX8_isAllowed_33 (by decide) ?_
        refine z_istore (y := (0 : Int32)) (lv' := [(5, .int (0 : Int32)), (4, .int (0 : Int32)), (3, .int x34), (0, .ref (ad 0)), (1, .int v1), (2, .int v2)]) C dX8_isAllowed_34 (by decide) rfl rfl ?_
        refine z_iconst (v := (0 : Int32)) C dX8_isAllowed_36 (by decide) ?_
        refine z_istore (y := (0 : Int32)) (lv' := [(6, .int (0 : Int32)), (5, .int (0 : Int32)), (4, .int (0 : Int32)), (3, .int x34), (0, .ref (ad 0)), (1, .int v1), (2, .int v2)]) C dX8_isAllowed_37 (by decide) rfl rfl ?_
        exact z_sub [4, 5, 6, 3, 2, 1, 0] rfl (w_X8_isAllowed_j39 C hQ ih _ _ _ _ _ _ _ _ hm)
set_option maxRecDepth 100000 in
set_option maxHeartbeats 4000000 in
theorem w_X8_isAllowed_e {h : zH} {ad : Nat → Nat} {G : zG} (C : zC h ad zLM 8 G cX8_isAllowed RX8 wsX8_isAllowed 2 46) {n : Nat} {r : Int32} {s9 : zS} (hQ : zQ h ad zLM G false (.inl r) s9 (some .boolean))  (s : zS) (hm : m_X8_isAllowed n s = some (r, s9)) : zV h ad zLM 8 G s 0 [(0, .ref (ad 0))] [] := by
  rw [m_X8_isAllowed] at hm
  refine z_iconst (v := (1 : Int32)) C dX8_isAllowed_0 (by decide) ?_
  refine z_istore_n (y := (1 : Int32)) (lv' := [(1, .int (1 : Int32)), (0, .ref (ad 0))]) C dX8_isAllowed_1 rfl (by decide) rfl rfl ?_
  refine z_iconst (v := (0 : Int32)) C dX8_isAllowed_2 (by decide) ?_
  refine z_istore_n (y := (0 : Int32)) (lv' := [(2, .int (0 : Int32)), (1, .int (1 : Int32)), (0, .ref (ad 0))]) C dX8_isAllowed_3 rfl (by decide) rfl rfl ?_
  exact z_sub [2, 1, 0] rfl (w_X8_isAllowed_j4 C hQ  _ _ _ _ hm)
set_option maxRecDepth 100000 in
set_option maxHeartbeats 4000000 in
theorem c_X8_isAllowed {h : zH} {ad : Nat → Nat} (hI : zI ad zLM.length) (hst : h.1.stackTraces = false) {n : Nat} {s s9 : zS} {r : Int32} (hm : m_X8_isAllowed n s = some (r, s9)) : zMR h ad zLM false yX8_isAllowed wsX8_isAllowed 2 46 [.ref (ad 0)] s (.inl r) s9 :=
  z_start (cc := cX8_isAllowed) (nL := 8) (ret := (some .boolean)) (own := RX8) (by decide +kernel) rfl rfl hI hst (Nat.le_of_ble_eq_true rfl) (fun G C hQ => w_X8_isAllowed_e C hQ _ hm)
set_option maxRecDepth 100000 in
theorem eX8_define_uX8 : ∀ w ∈ wsX80, w ∈ wsX8_define := by decide +kernel
set_option maxRecDepth 100000 in
theorem eX8_define_f65 : Cond.fieldLink RX8 65 RX8 (TX8 23).2.1 (TX8 23).2.2.1 ∈ wsX8_define := by decide +kernel
set_option maxRecDepth 100000 in
theorem eX8_define_f7 : Cond.fieldLink RX8 7 RX8 (TX8 0).2.1 (TX8 0).2.2.1 ∈ wsX8_define := by decide +kernel
set_option maxRecDepth 100000 in
theorem eX8_define_f13 : Cond.fieldLink RX8 13 RX8 (TX8 1).2.1 (TX8 1).2.2.1 ∈ wsX8_define := by decide +kernel
set_option maxRecDepth 100000 in
theorem eX8_define_f16 : Cond.fieldLink RX8 16 RX8 (TX8 2).2.1 (TX8 2).2.2.1 ∈ wsX8_define := by decide +kernel
set_option maxRecDepth 100000 in
set_option maxHeartbeats 4000000 in
theorem w_X8_define_j122 {h : zH} {ad : Nat → Nat} {G : zG} (C : zC h ad zLM 11 G cX8_define RX8 wsX8_define 3 73) {n : Nat} {r : Int32} {s9 : zS} (hQ : zQ h ad zLM G true (.inl r) s9 none) (v1 : Int32) (v2 : Int32) (v3 : Int32) (v4 : Int32) (t1 : Int32) (s : zS) (hm : m_X8_define_j122 n v1 v2 v3 v4 t1 s = some (r, s9)) : zV h ad zLM 11 G s 122 [(0, .ref (ad 0)), (1, .int v1), (2, .int v2), (3, .int v3), (4, .int v4)] [.int t1, .ref (ad 0)] := by
  rw [m_X8_define_j122] at hm
  obtain ⟨s1, e_s1, hm⟩ := zLt_of hm
  refine z_put C kM0 vc8 eX8_define_uX8 tyX8_ok nmX8 23 (by decide) rfl eX8_define_f65 rfl rfl rfl e_s1 dX8_define_122 ?_
  refine z_aload_n C dX8_define_125 rfl 0 rfl ?_
  refine z_get C kM0 vc8 eX8_define_uX8 23 (by decide) rfl eX8_define_f65 rfl dX8_define_126 ?_
  refine z_if_le (tgt := 133) C dX8_define_129 (by decide) (fun c2 => ?_) (fun c2 => ?_)
  · have hm := zIt hm c2
    refine z_aload_n C dX8_define_133 rfl 0 rfl ?_
    refine z_getr C kM0 vc8 eX8_define_uX8 0 (by decide) rfl eX8_define_f7 rfl dX8_define_134 ?_
    refine z_iload_n C dX8_define_137 rfl 1 rfl ?_
    obtain ⟨x3, i_x3, e_x3, hm⟩ := zRd_of hm
    refine z_iald C kM1 i_x3 e_x3 dX8_define_138 ?_
    refine z_istore (y := x3) (lv' := [(8, .int x3), (0, .ref (ad 0)), (1, .int v1), (2, .int v2), (3, .int v3), (4, .int v4)]) C dX8_define_139 (by decide) rfl rfl ?_
    refine z_aload_n C dX8_define_141 rfl 1 rfl ?_
    refine z_getr C kM0 vc8 eX8_define_uX8 1 (by decide) rfl eX8_define_f13 rfl dX8_define_142 ?_
    refine z_iload_n C dX8_define_145 rfl 2 rfl ?_
    obtain ⟨x4, i_x4, e_x4, hm⟩ := zRd_of hm
    refine z_iald C kM2 i_x4 e_x4 dX8_define_146 ?_
    refine z_istore (y := x4) (lv' := [(9, .int x4), (8, .int x3), (0, .ref (ad 0)), (1, .int v1), (2, .int v2), (3, .int v3), (4, .int v4)]) C dX8_define_147 (by decide) rfl rfl ?_
    refine z_aload_n C dX8_define_149 rfl 2 rfl ?_
    refine z_getr C kM0 vc8 eX8_define_uX8 2 (by decide) rfl eX8_define_f16 rfl dX8_define_150 ?_
    refine z_iload_n C dX8_define_153 rfl 3 rfl ?_
    obtain ⟨x5, i_x5, e_x5, hm⟩ := zRd_of hm
    refine z_iald C kM3 i_x5 e_x5 dX8_define_154 ?_
    refine z_istore (y := x5) (lv' := [(10, .int x5), (9, .int x4), (8, .int x3), (0, .ref (ad 0)), (1, .int v1), (2, .int v2), (3, .int v3), (4, .int v4)]) C dX8_define_155 (by decide) rfl rfl ?_
    refine z_aload_n C dX8_define_157 rfl 3 rfl ?_
    refine z_getr C kM0 vc8 eX8_define_uX8 0 (by decide) rfl eX8_define_f7 rfl dX8_define_158 ?_
    refine z_iload_n C dX8_define_161 rfl 4 rfl ?_
    refine z_iload_n C dX8_define_162 rfl 5 rfl ?_
    obtain ⟨s6, i_s6, e_s6, hm⟩ := zWr_of hm
    refine z_iast C kM1 i_s6 e_s6 dX8_define_163 ?_
    refine z_aload_n C dX8_define_164 rfl 3 rfl ?_
    refine z_getr C kM0 vc8 eX8_define_uX8 1 (by decide) rfl eX8_define_f13 rfl dX8_define_165 ?_
    refine z_iload_n C dX8_define_168 rfl 4 rfl ?_
    refine z_iload_n C dX8_define_169 rfl 6 rfl ?_
    obtain ⟨s7, i_s7, e_s7, hm⟩ := zWr_of hm
    refine z_iast C kM2 i_s7 e_s7 dX8_define_170 ?_
    refine z_aload_n C dX8_define_171 rfl 3 rfl ?_
    refine z_getr C kM0 vc8 eX8_define_uX8 2 (by decide) rfl eX8_define_f16 rfl dX8_define_172 ?_
    refine z_iload_n C dX8_define_175 rfl 4 rfl ?_
    refine z_iload C dX8_define_176 7 rfl ?_
    obtain ⟨s8, i_s8, e_s8, hm⟩ := zWr_of hm
    refine z_iast C kM3 i_s8 e_s8 dX8_define_178 ?_
    refine z_aload_n C dX8_define_179 rfl 3 rfl ?_
    obtain ⟨x9, s10, q_s10, hm⟩ := zBd_of hm
    refine z_cV (vd := false) (Cn := RX8) (k := 0) C 0 [] [] (c_X8_isAllowed (zC_I C) (zC_st C)  q_s10) gX8_define_X8_isAllowed (by decide +kernel) kM0 vc8 rfl rfl dX8_define_180 rfl ⟨Nat.le_of_ble_eq_true rfl, Nat.le_of_ble_eq_true rfl⟩ rfl (Nat.le_of_ble_eq_true rfl) ?_
    refine z_if_ne (tgt := 215) C dX8_define_183 (by decide) (fun c11 => ?_) (fun c11 => ?_)
    · have hm := zIf hm c11
      exact z_vret0 C hQ (zRt_of hm).1 (zRt_of hm).2 dX8_define_215
    · have hm := zIt hm c11
      refine z_aload_n C dX8_define_186 rfl 3 rfl ?_
      refine z_getr C kM0 vc8 eX8_define_uX8 0 (by decide) rfl eX8_define_f7 rfl dX8_define_187 ?_
      refine z_iload_n C dX8_define_190 rfl 4 rfl ?_
      refine z_iload C dX8_define_191 2 rfl ?_
      obtain ⟨s12, i_s12, e_s12, hm⟩ := zWr_of hm
      refine z_iast C kM1 i_s12 e_s12 dX8_define_193 ?_
      refine z_aload_n C dX8_define_194 rfl 3 rfl ?_
      refine z_getr C kM0 vc8 eX8_define_uX8 1 (by decide) rfl eX8_define_f13 rfl dX8_define_195 ?_
      refine z_iload_n C dX8_define_198 rfl 4 rfl ?_
      refine z_iload C dX8_define_199 1 rfl ?_
      obtain ⟨s13, i_s13, e_s13, hm⟩ := zWr_of hm
      refine z_iast C kM2 i_s13 e_s13 dX8_define_201 ?_
      refine z_aload_n C dX8_define_202 rfl 3 rfl ?_
      refine z_getr C kM0 vc8 eX8_define_uX8 2 (by decide) rfl eX8_define_f16 rfl dX8_define_203 ?_
      refine z_iload_n C dX8_define_206 rfl 4 rfl ?_
      refine z_iload C dX8_define_207 0 rfl ?_
      obtain ⟨s14, i_s14, e_s14, hm⟩ := zWr_of hm
      refine z_iast C kM3 i_s14 e_s14 dX8_define_209 ?_
      refine z_aload_n C dX8_define_210 rfl 3 rfl ?_
      refine z_iconst (v := (3 : Int32)) C dX8_define_211 (by decide) ?_
      obtain ⟨s15, e_s15, hm⟩ := zLt_of hm
      refine z_put C kM0 vc8 eX8_define_uX8 tyX8_ok nmX8 23 (by decide) rfl eX8_define_f65 rfl rfl rfl e_s15 dX8_define_212 ?_
      exact z_vret0 C hQ (zRt_of hm).1 (zRt_of hm).2 dX8_define_215
  · have hm := zIf hm c2
    exact z_vret0 C hQ (zRt_of hm).1 (zRt_of hm).2 dX8_define_132
set_option maxRecDepth 100000 in
set_option maxHeartbeats 4000000 in
theorem w_X8_define_j83 {h : zH} {ad : Nat → Nat} {G : zG} (C : zC h ad zLM 11 G cX8_define RX8 wsX8_define 3 73) {n : Nat} {r : Int32} {s9 : zS} (hQ : zQ h ad zLM G true (.inl r) s9 none) (v1 : Int32) (v2 : Int32) (v3 : Int32) (v4 : Int32) (v6 : Int32) (t0 : Int32) (s : zS) (hm : m_X8_define_j83 n v1 v2 v3 v4 v6 t0 s = some (r, s9)) : zV h ad zLM 11 G s 83 [(0, .ref (ad 0)), (1, .int v1), (2, .int v2), (3, .int v3), (4, .int v4), (6, .int v6)] [.int t0] := by
  rw [m_X8_define_j83] at hm
  refine z_istore (y := t0) (lv' := [(7, .int t0), (0, .ref (ad 0)), (1, .int v1), (2, .int v2), (3, .int v3), (4, .int v4), (6, .int v6)]) C dX8_define_83 (by decide) rfl rfl ?_
  refine z_aload_n C dX8_define_85 rfl 1 rfl ?_
  refine z_iload C dX8_define_86 0 rfl ?_
  refine z_if_ne (tgt := 95) C dX8_define_88 (by decide) (fun c16 => ?_) (fun c16 => ?_)
  · have hm := zIf hm c16
    refine z_iload C dX8_define_95 6 rfl ?_
    refine z_if_eq (tgt := 117) C dX8_define_97 (by decide) (fun c17 => ?_) (fun c17 => ?_)
    · have hm := zIt hm c17
      refine z_iconst (v := (2 : Int32)) C dX8_define_117 (by decide) ?_
      refine z_goto (tgt := 122) C dX8_define_118 (by decide) ?_
      exact z_sub [1, 2, 3, 4, 5] rfl (w_X8_define_j122 C hQ  _ _ _ _ _ _ hm)
    · have hm := zIf hm c17
      refine z_iload_n C dX8_define_100 rfl 3 rfl ?_
      refine z_iconst (v := (3 : Int32)) C dX8_define_101 (by decide) ?_
      refine z_icmp_ne (tgt := 121) C dX8_define_102 (by decide) (fun c18 => ?_) (fun c18 => ?_)
      · have hm := zIf hm c18
        refine z_iconst (v := (0 : Int32)) C dX8_define_121 (by decide) ?_
        exact z_sub [1, 2, 3, 4, 5] rfl (w_X8_define_j122 C hQ  _ _ _ _ _ _ hm)
      · have hm := zIt hm c18
        refine z_iload C dX8_define_105 5 rfl ?_
        refine z_iconst (v := (0 : Int32)) C dX8_define_107 (by decide) ?_
        refine z_sipush (v := (1000 : Int32)) C dX8_define_108 (by decide) ?_
        obtain ⟨x19, s20, q_s20, hm⟩ := zBd_of hm
        refine z_cS (vd := false) C 3 [.int v4, .int (0 : Int32), .int (1000 : Int32)] [.ref (ad 0)] (c_X8_isIn (zC_I C) (zC_st C)  q_s20) gX8_define_X8_isIn (by decide +kernel) rfl dX8_define_111 rfl ⟨Nat.le_of_ble_eq_true rfl, Nat.le_of_ble_eq_true rfl⟩ rfl (Nat.le_of_ble_eq_true rfl) ?_
        refine z_if_ne (tgt := 121) C dX8_define_114 (by decide) (fun c21 => ?_) (fun c21 => ?_)
        · have hm := zIf hm c21
          refine z_iconst (v := (0 : Int32)) C dX8_define_121 (by decide) ?_
          exact z_sub [1, 2, 3, 4, 5] rfl (w_X8_define_j122 C hQ  _ _ _ _ _ _ hm)
        · have hm := zIt hm c21
          refine z_iconst (v := (2 : Int32)) C dX8_define_117 (by decide) ?_
          refine z_goto (tgt := 122) C dX8_define_118 (by decide) ?_
          exact z_sub [1, 2, 3, 4, 5] rfl (w_X8_define_j122 C hQ  _ _ _ _ _ _ hm)
  · have hm := zIt hm c16
    refine z_iconst (v := (1 : Int32)) C dX8_define_91 (by decide) ?_
    refine z_goto (tgt := 122) C dX8_define_92 (by decide) ?_
    exact z_sub [1, 2, 3, 4, 5] rfl (w_X8_define_j122 C hQ  _ _ _ _ _ _ hm)
set_option maxRecDepth 100000 in
set_option maxHeartbeats 4000000 in
theorem w_X8_define_j65 {h : zH} {ad : Nat → Nat} {G : zG} (C : zC h ad zLM 11 G cX8_define RX8 wsX8_define 3 73) {n : Nat} {r : Int32} {s9 : zS} (hQ : zQ h ad zLM G true (.inl r) s9 none) (v1 : Int32) (v2 : Int32) (v3 : Int32) (v4 : Int32) (v5 : Int32) (v6 : Int32) (s : zS) (hm : m_X8_define_j65 n v1 v2 v3 v4 v5 v6 s = some (r, s9)) : zV h ad zLM 11 G s 65 [(0, .ref (ad 0)), (1, .int v1), (2, .int v2), (3, .int v3), (4, .int v4), (5, .int v5), (6, .int v6)] [] := by
  rw [m_X8_define_j65] at hm
  refine z_iload C dX8_define_65 5 rfl ?_
  refine z_if_eq (tgt := 78) C dX8_define_67 (by decide) (fun c22 => ?_) (fun c22 => ?_)
  · have hm := zIt hm c22
    refine z_iconst (v := (1 : Int32)) C dX8_define_78 (by decide) ?_
    refine z_goto (tgt := 83) C dX8_define_79 (by decide) ?_
    exact z_sub [0, 1, 2, 3, 4, 6] rfl (w_X8_define_j83 C hQ  _ _ _ _ _ _ _ hm)
  · have hm := zIf hm c22
    refine z_iload C dX8_define_70 4 rfl ?_
    obtain ⟨x23, s24, q_s24, hm⟩ := zBd_of hm
    refine z_cS (vd := false) C 1 [.int v4] [] (c_X8_isLine (zC_I C) (zC_st C)  q_s24) gX8_define_X8_isLine (by decide +kernel) rfl dX8_define_72 rfl ⟨Nat.le_of_ble_eq_true rfl, Nat.le_of_ble_eq_true rfl⟩ rfl (Nat.le_of_ble_eq_true rfl) ?_
    refine z_if_eq (tgt := 82) C dX8_define_75 (by decide) (fun c25 => ?_) (fun c25 => ?_)
    · have hm := zIt hm c25
      refine z_iconst (v := (0 : Int32)) C dX8_define_82 (by decide) ?_
      exact z_sub [0, 1, 2, 3, 4, 6] rfl (w_X8_define_j83 C hQ  _ _ _ _ _ _ _ hm)
    · have hm := zIf hm c25
      refine z_iconst (v := (1 : Int32)) C dX8_define_78 (by decide) ?_
      refine z_goto (tgt := 83) C dX8_define_79 (by decide) ?_
      exact z_sub [0, 1, 2, 3, 4, 6] rfl (w_X8_define_j83 C hQ  _ _ _ _ _ _ _ hm)
set_option maxRecDepth 100000 in
set_option maxHeartbeats 4000000 in
theorem w_X8_define_j31 {h : zH} {ad : Nat → Nat} {G : zG} (C : zC h ad zLM 11 G cX8_define RX8 wsX8_define 3 73) {n : Nat} {r : Int32} {s9 : zS} (hQ : zQ h ad zLM G true (.inl r) s9 none) (v1 : Int32) (v2 : Int32) (v3 : Int32) (v4 : Int32) (t0 : Int32) (s : zS) (hm : m_X8_define_j31 n v1 v2 v3 v4 t0 s = some (r, s9)) : zV h ad zLM 11 G s 31 [(0, .ref (ad 0)), (1, .int v1), (2, .int v2), (3, .int v3), (4, .int v4)] [.int t0] := by
  rw [m_X8_define_j31] at hm
  refine z_istore (y := t0) (lv' := [(5, .int t0), (0, .ref (ad 0)), (1, .int v1), (2, .int v2), (3, .int v3), (4, .int v4)]) C dX8_define_31 (by decide) rfl rfl ?_
  refine z_iload_n C dX8_define_33 rfl 3 rfl ?_
  refine z_iconst (v := (0 : Int32)) C dX8_define_34 (by decide) ?_
  refine z_bipush (v := (8 : Int32)) C dX8_define_35 (by decide) ?_
  obtain ⟨x26, s27, q_s27, hm⟩ := zBd_of hm
  refine z_cS (vd := false) C 3 [.int v2, .int (0 : Int32), .int (8 : Int32)] [] (c_X8_isIn (zC_I C) (zC_st C)  q_s27) gX8_define_X8_isIn (by decide +kernel) rfl dX8_define_37 rfl ⟨Nat.le_of_ble_eq_true rfl, Nat.le_of_ble_eq_true rfl⟩ rfl (Nat.le_of_ble_eq_true rfl) ?_
  refine z_istore (y := x26) (lv' := [(6, .int x26), (5, .int t0), (0, .ref (ad 0)), (1, .int v1), (2, .int v2), (3, .int v3), (4, .int v4)]) C dX8_define_40 (by decide) rfl rfl ?_
  refine z_iload_n C dX8_define_42 rfl 3 rfl ?_
  obtain ⟨x28, s29, q_s29, hm⟩ := zBd_of hm
  refine z_cS (vd := false) C 1 [.int v1] [] (c_X8_isLine (zC_I C) (zC_st C)  q_s29) gX8_define_X8_isLine (by decide +kernel) rfl dX8_define_43 rfl ⟨Nat.le_of_ble_eq_true rfl, Nat.le_of_ble_eq_true rfl⟩ rfl (Nat.le_of_ble_eq_true rfl) ?_
  refine z_if_eq (tgt := 82) C dX8_define_46 (by decide) (fun c30 => ?_) (fun c30 => ?_)
  · have hm := zIt hm c30
    refine z_iconst (v := (0 : Int32)) C dX8_define_82 (by decide) ?_
    exact z_sub [2, 3, 4, 5, 6, 0] rfl (w_X8_define_j83 C hQ  _ _ _ _ _ _ _ hm)
  · have hm := zIf hm c30
    refine z_iload C dX8_define_49 0 rfl ?_
    refine z_if_eq (tgt := 65) C dX8_define_51 (by decide) (fun c31 => ?_) (fun c31 => ?_)
    · have hm := zIt hm c31
      exact z_sub [2, 3, 4, 5, 6, 1, 0] rfl (w_X8_define_j65 C hQ  _ _ _ _ _ _ _ hm)
    · have hm := zIf hm c31
      refine z_iload_n C dX8_define_54 rfl 4 rfl ?_
      refine z_if_eq (tgt := 65) C dX8_define_55 (by decide) (fun c32 => ?_) (fun c32 => ?_)
      · have hm := zIt hm c32
        exact z_sub [2, 3, 4, 5, 6, 1, 0] rfl (w_X8_define_j65 C hQ  _ _ _ _ _ _ _ hm)
      · have hm := zIf hm c32
        refine z_iload_n C dX8_define_58 rfl 5 rfl ?_
        obtain ⟨x33, s34, q_s34, hm⟩ := zBd_of hm
        refine z_cS (vd := false) C 1 [.int v3] [] (c_X8_isLine (zC_I C) (zC_st C)  q_s34) gX8_define_X8_isLine (by decide +kernel) rfl dX8_define_59 rfl ⟨Nat.le_of_ble_eq_true rfl, Nat.le_of_ble_eq_true rfl⟩ rfl (Nat.le_of_ble_eq_true rfl) ?_
        refine z_if_eq (tgt := 82) C dX8_define_62 (by decide) (fun c35 => ?_) (fun c35 => ?_)
        · have hm := zIt hm c35
          refine z_iconst (v := (0 : Int32)) C dX8_define_82 (by decide) ?_
          exact z_sub [2, 3, 4, 5, 6, 0] rfl (w_X8_define_j83 C hQ  _ _ _ _ _ _ _ hm)
        · have hm := zIf hm c35
          exact z_sub [2, 3, 4, 5, 6, 1, 0] rfl (w_X8_define_j65 C hQ  _ _ _ _ _ _ _ hm)
set_option maxRecDepth 100000 in
set_option maxHeartbeats 4000000 in
theorem w_X8_define_j26 {h : zH} {ad : Nat → Nat} {G : zG} (C : zC h ad zLM 11 G cX8_define RX8 wsX8_define 3 73) {n : Nat} {r : Int32} {s9 : zS} (hQ : zQ h ad zLM G true (.inl r) s9 none) (v1 : Int32) (v2 : Int32) (v3 : Int32) (v4 : Int32) (s : zS) (hm : m_X8_define_j26 n v1 v2 v3 v4 s = some (r, s9)) : zV h ad zLM 11 G s 26 [(0, .ref (ad 0)), (1, .int v1), (2, .int v2), (3, .int v3), (4, .int v4)] [] := by
  rw [m_X8_define_j26] at hm
  refine z_iconst (v := (1 : Int32)) C dX8_define_26 (by decide) ?_
  refine z_goto (tgt := 31) C dX8_define_27 (by decide) ?_
  exact z_sub [0, 1, 2, 3, 4] rfl (w_X8_define_j31 C hQ  _ _ _ _ _ _ hm)
set_option maxRecDepth 100000 in
set_option maxHeartbeats 4000000 in
theorem w_X8_define_e {h : zH} {ad : Nat → Nat} {G : zG} (C : zC h ad zLM 11 G cX8_define RX8 wsX8_define 3 73) {n : Nat} {r : Int32} {s9 : zS} (hQ : zQ h ad zLM G true (.inl r) s9 none) {v1 : Int32} {v2 : Int32} {v3 : Int32} {v4 : Int32} (s : zS) (hm : m_X8_define n v1 v2 v3 v4 s = some (r, s9)) : zV h ad zLM 11 G s 0 [(0, .ref (ad 0)), (1, .int v1), (2, .int v2), (3, .int v3), (4, .int v4)] [] := by
  rw [m_X8_define] at hm
  refine z_iload_n C dX8_define_0 rfl 2 rfl ?_
  refine z_iconst (v := (1 : Int32)) C dX8_define_1 (by decide) ?_
  refine z_icmp_eq (tgt := 26) C dX8_define_2 (by decide) (fun c36 => ?_) (fun c36 => ?_)
  · have hm := zIt hm c36
    exact z_sub [0, 1, 2, 3, 4] rfl (w_X8_define_j26 C hQ  _ _ _ _ _ hm)
  · have hm := zIf hm c36
    refine z_iload_n C dX8_define_5 rfl 2 rfl ?_
    refine z_iconst (v := (2 : Int32)) C dX8_define_6 (by decide) ?_
    refine z_icmp_eq (tgt := 26) C dX8_define_7 (by decide) (fun c37 => ?_) (fun c37 => ?_)
    · have hm := zIt hm c37
      exact z_sub [0, 1, 2, 3, 4] rfl (w_X8_define_j26 C hQ  _ _ _ _ _ hm)
    · have hm := zIf hm c37
      refine z_iload_n C dX8_define_10 rfl 2 rfl ?_
      refine z_iconst (v := (4 : Int32)) C dX8_define_11 (by decide) ?_
      refine z_icmp_eq (tgt := 26) C dX8_define_12 (by decide) (fun c38 => ?_) (fun c38 => ?_)
      · have hm := zIt hm c38
        exact z_sub [0, 1, 2, 3, 4] rfl (w_X8_define_j26 C hQ  _ _ _ _ _ hm)
      · have hm := zIf hm c38
        refine z_iload_n C dX8_define_15 rfl 2 rfl ?_
        refine z_iconst (v := (5 : Int32)) C dX8_define_16 (by decide) ?_
        refine z_icmp_eq (tgt := 26) C dX8_define_17 (by decide) (fun c39 => ?_) (fun c39 => ?_)
        · have hm := zIt hm c39
          exact z_sub [0, 1, 2, 3, 4] rfl (w_X8_define_j26 C hQ  _ _ _ _ _ hm)
        · have hm := zIf hm c39
          refine z_iload_n C dX8_define_20 rfl 2 rfl ?_
          refine z_bipush (v := (8 : Int32)) C dX8_define_21 (by decide) ?_
          refine z_icmp_ne (tgt := 30) C dX8_define_23 (by decide) (fun c40 => ?_) (fun c40 => ?_)
          · have hm := zIf hm c40
            refine z_iconst (v := (0 : Int32)) C dX8_define_30 (by decide) ?_
            exact z_sub [0, 1, 2, 3, 4] rfl (w_X8_define_j31 C hQ  _ _ _ _ _ _ hm)
          · have hm := zIt hm c40
            exact z_sub [0, 1, 2, 3, 4] rfl (w_X8_define_j26 C hQ  _ _ _ _ _ hm)
set_option maxRecDepth 100000 in
set_option maxHeartbeats 4000000 in
theorem c_X8_define {h : zH} {ad : Nat → Nat} (hI : zI ad zLM.length) (hst : h.1.stackTraces = false) {n : Nat} {v1 : Int32} {v2 : Int32} {v3 : Int32} {v4 : Int32} {s s9 : zS} {r : Int32} (hm : m_X8_define n v1 v2 v3 v4 s = some (r, s9)) : zMR h ad zLM true yX8_define wsX8_define 3 73 [.ref (ad 0), .int v1, .int v2, .int v3, .int v4] s (.inl r) s9 :=
  z_start (cc := cX8_define) (nL := 11) (ret := none) (own := RX8) (by decide +kernel) rfl rfl hI hst (Nat.le_of_ble_eq_true rfl) (fun G C hQ => w_X8_define_e C hQ _ hm)
set_option maxRecDepth 100000 in
theorem eX8_answer_uX8 : ∀ w ∈ wsX80, w ∈ wsX8_answer := by decide +kernel
set_option maxRecDepth 100000 in
theorem eX8_answer_f65 : Cond.fieldLink RX8 65 RX8 (TX8 23).2.1 (TX8 23).2.2.1 ∈ wsX8_answer := by decide +kernel
set_option maxRecDepth 100000 in
theorem eX8_answer_f19 : Cond.fieldLink RX8 19 RX8 (TX8 3).2.1 (TX8 3).2.2.1 ∈ wsX8_answer := by decide +kernel
set_option maxRecDepth 100000 in
theorem eX8_answer_c105 : Cond.constant RX8 105 (1000000 : Int32) ∈ wsX8_answer := by decide +kernel
set_option maxRecDepth 100000 in
set_option maxHeartbeats 4000000 in
theorem w_X8_answer_j27 {h : zH} {ad : Nat → Nat} {G : zG} (C : zC h ad zLM 4 G cX8_answer RX8 wsX8_answer 2 42) {n : Nat} {r : Int32} {s9 : zS} (hQ : zQ h ad zLM G false (.inl r) s9 (some .int)) (v1 : Int32) (v2 : Int32) (t1 : Int32) (s : zS) (hm : m_X8_answer_j27 n v1 v2 t1 s = some (r, s9)) : zV h ad zLM 4 G s 27 [(0, .ref (ad 0)), (1, .int v1), (2, .int v2)] [.int t1, .ref (ad 0)] := by
  rw [m_X8_answer_j27] at hm
  obtain ⟨s1, e_s1, hm⟩ := zLt_of hm
  refine z_put C kM0 vc8 eX8_answer_uX8 tyX8_ok nmX8 23 (by decide) rfl eX8_answer_f65 rfl rfl rfl e_s1 dX8_answer_27 ?_
  refine z_aload_n C dX8_answer_30 rfl 0 rfl ?_
  refine z_get C kM0 vc8 eX8_answer_uX8 23 (by decide) rfl eX8_answer_f65 rfl dX8_answer_31 ?_
  refine z_if_le (tgt := 39) C dX8_answer_34 (by decide) (fun c2 => ?_) (fun c2 => ?_)
  · have hm := zIt hm c2
    refine z_aload_n C dX8_answer_39 rfl 0 rfl ?_
    refine z_getr C kM0 vc8 eX8_answer_uX8 3 (by decide) rfl eX8_answer_f19 rfl dX8_answer_40 ?_
    refine z_iload_n C dX8_answer_43 rfl 1 rfl ?_
    obtain ⟨x3, i_x3, e_x3, hm⟩ := zRd_of hm
    refine z_iald C kM4 i_x3 e_x3 dX8_answer_44 ?_
    refine z_istore_n (y := x3) (lv' := [(3, .int x3), (0, .ref (ad 0)), (1, .int v1), (2, .int v2)]) C dX8_answer_45 rfl (by decide) rfl rfl ?_
    refine z_aload_n C dX8_answer_46 rfl 1 rfl ?_
    refine z_getr C kM0 vc8 eX8_answer_uX8 3 (by decide) rfl eX8_answer_f19 rfl dX8_answer_47 ?_
    refine z_iload_n C dX8_answer_50 rfl 2 rfl ?_
    refine z_iload_n C dX8_answer_51 rfl 3 rfl ?_
    obtain ⟨s4, i_s4, e_s4, hm⟩ := zWr_of hm
    refine z_iast C kM4 i_s4 e_s4 dX8_answer_52 ?_
    refine z_iload_n C dX8_answer_53 rfl 0 rfl ?_
    exact z_iret0 C hQ (zRt_of hm).1 (zRt_of hm).2 dX8_answer_54
  · have hm := zIf hm c2
    refine z_iconst (v := (0 : Int32)) C dX8_answer_37 (by decide) ?_
    exact z_iret0 C hQ (zRt_of hm).1 (zRt_of hm).2 dX8_answer_38
set_option maxRecDepth 100000 in
set_option maxHeartbeats 4000000 in
theorem w_X8_answer_e {h : zH} {ad : Nat → Nat} {G : zG} (C : zC h ad zLM 4 G cX8_answer RX8 wsX8_answer 2 42) {n : Nat} {r : Int32} {s9 : zS} (hQ : zQ h ad zLM G false (.inl r) s9 (some .int)) {v1 : Int32} {v2 : Int32} (s : zS) (hm : m_X8_answer n v1 v2 s = some (r, s9)) : zV h ad zLM 4 G s 0 [(0, .ref (ad 0)), (1, .int v1), (2, .int v2)] [] := by
  rw [m_X8_answer] at hm
  refine z_aload_n C dX8_answer_0 rfl 0 rfl ?_
  refine z_iload_n C dX8_answer_1 rfl 1 rfl ?_
  obtain ⟨x5, s6, q_s6, hm⟩ := zBd_of hm
  refine z_cS (vd := false) C 1 [.int v1] [.ref (ad 0)] (c_X8_isLine (zC_I C) (zC_st C)  q_s6) gX8_answer_X8_isLine (by decide +kernel) rfl dX8_answer_2 rfl ⟨Nat.le_of_ble_eq_true rfl, Nat.le_of_ble_eq_true rfl⟩ rfl (Nat.le_of_ble_eq_true rfl) ?_
  refine z_if_ne (tgt := 12) C dX8_answer_5 (by decide) (fun c7 => ?_) (fun c7 => ?_)
  · have hm := zIf hm c7
    refine z_iload_n C dX8_answer_12 rfl 2 rfl ?_
    refine z_iconst (v := (0 : Int32)) C dX8_answer_13 (by decide) ?_
    refine z_ldc (v := (1000000 : Int32)) C eX8_answer_c105 dX8_answer_14 ?_
    obtain ⟨x8, s9, q_s9, hm⟩ := zBd_of hm
    refine z_cS (vd := false) C 3 [.int v2, .int (0 : Int32), .int (1000000 : Int32)] [.ref (ad 0)] (c_X8_isIn (zC_I C) (zC_st C)  q_s9) gX8_answer_X8_isIn (by decide +kernel) rfl dX8_answer_16 rfl ⟨Nat.le_of_ble_eq_true rfl, Nat.le_of_ble_eq_true rfl⟩ rfl (Nat.le_of_ble_eq_true rfl) ?_
    refine z_if_eq (tgt := 26) C dX8_answer_19 (by decide) (fun c10 => ?_) (fun c10 => ?_)
    · have hm := zIt hm c10
      refine z_iconst (v := (2 : Int32)) C dX8_answer_26 (by decide) ?_
      exact z_sub [0, 1, 2] rfl (w_X8_answer_j27 C hQ  _ _ _ _ hm)
    · have hm := zIf hm c10
      refine z_iconst (v := (0 : Int32)) C dX8_answer_22 (by decide) ?_
      refine z_goto (tgt := 27) C dX8_answer_23 (by decide) ?_
      exact z_sub [0, 1, 2] rfl (w_X8_answer_j27 C hQ  _ _ _ _ hm)
  · have hm := zIt hm c7
    refine z_iconst (v := (1 : Int32)) C dX8_answer_8 (by decide) ?_
    refine z_goto (tgt := 27) C dX8_answer_9 (by decide) ?_
    exact z_sub [0, 1, 2] rfl (w_X8_answer_j27 C hQ  _ _ _ _ hm)
set_option maxRecDepth 100000 in
set_option maxHeartbeats 4000000 in
theorem c_X8_answer {h : zH} {ad : Nat → Nat} (hI : zI ad zLM.length) (hst : h.1.stackTraces = false) {n : Nat} {v1 : Int32} {v2 : Int32} {s s9 : zS} {r : Int32} (hm : m_X8_answer n v1 v2 s = some (r, s9)) : zMR h ad zLM false yX8_answer wsX8_answer 2 42 [.ref (ad 0), .int v1, .int v2] s (.inl r) s9 :=
  z_start (cc := cX8_answer) (nL := 4) (ret := (some .int)) (own := RX8) (by decide +kernel) rfl rfl hI hst (Nat.le_of_ble_eq_true rfl) (fun G C hQ => w_X8_answer_e C hQ _ hm)
set_option maxRecDepth 100000 in
theorem eX8_kindOf_uX8 : ∀ w ∈ wsX80, w ∈ wsX8_kindOf := by decide +kernel
set_option maxRecDepth 100000 in
theorem eX8_kindOf_f65 : Cond.fieldLink RX8 65 RX8 (TX8 23).2.1 (TX8 23).2.2.1 ∈ wsX8_kindOf := by decide +kernel
set_option maxRecDepth 100000 in
theorem eX8_kindOf_f7 : Cond.fieldLink RX8 7 RX8 (TX8 0).2.1 (TX8 0).2.2.1 ∈ wsX8_kindOf := by decide +kernel
set_option maxRecDepth 100000 in
set_option maxHeartbeats 4000000 in
theorem w_X8_kindOf_j13 {h : zH} {ad : Nat → Nat} {G : zG} (C : zC h ad zLM 2 G cX8_kindOf RX8 wsX8_kindOf 2 42) {n : Nat} {r : Int32} {s9 : zS} (hQ : zQ h ad zLM G false (.inl r) s9 (some .int)) (v1 : Int32) (t1 : Int32) (s : zS) (hm : m_X8_kindOf_j13 n v1 t1 s = some (r, s9)) : zV h ad zLM 2 G s 13 [(0, .ref (ad 0)), (1, .int v1)] [.int t1, .ref (ad 0)] := by
  rw [m_X8_kindOf_j13] at hm
  obtain ⟨s1, e_s1, hm⟩ := zLt_of hm
  refine z_put C kM0 vc8 eX8_kindOf_uX8 tyX8_ok nmX8 23 (by decide) rfl eX8_kindOf_f65 rfl rfl rfl e_s1 dX8_kindOf_13 ?_
  refine z_aload_n C dX8_kindOf_16 rfl 0 rfl ?_
  refine z_get C kM0 vc8 eX8_kindOf_uX8 23 (by decide) rfl eX8_kindOf_f65 rfl dX8_kindOf_17 ?_
  refine z_if_le (tgt := 27) C dX8_kindOf_20 (by decide) (fun c2 => ?_) (fun c2 => ?_)
  · have hm := zIt hm c2
    refine z_aload_n C dX8_kindOf_27 rfl 0 rfl ?_
    refine z_getr C kM0 vc8 eX8_kindOf_uX8 0 (by decide) rfl eX8_kindOf_f7 rfl dX8_kindOf_28 ?_
    refine z_iload_n C dX8_kindOf_31 rfl 1 rfl ?_
    obtain ⟨x3, i_x3, e_x3, hm⟩ := zRd_of hm
    refine z_iald C kM1 i_x3 e_x3 dX8_kindOf_32 ?_
    exact z_iret0 C hQ (zRt_of hm).1 (zRt_of hm).2 dX8_kindOf_33
  · have hm := zIf hm c2
    refine z_iconst (v := (0 : Int32)) C dX8_kindOf_23 (by decide) ?_
    refine z_goto (tgt := 33) C dX8_kindOf_24 (by decide) ?_
    exact z_iret0 C hQ (zRt_of hm).1 (zRt_of hm).2 dX8_kindOf_33
set_option maxRecDepth 100000 in
set_option maxHeartbeats 4000000 in
theorem w_X8_kindOf_e {h : zH} {ad : Nat → Nat} {G : zG} (C : zC h ad zLM 2 G cX8_kindOf RX8 wsX8_kindOf 2 42) {n : Nat} {r : Int32} {s9 : zS} (hQ : zQ h ad zLM G false (.inl r) s9 (some .int)) {v1 : Int32} (s : zS) (hm : m_X8_kindOf n v1 s = some (r, s9)) : zV h ad zLM 2 G s 0 [(0, .ref (ad 0)), (1, .int v1)] [] := by
  rw [m_X8_kindOf] at hm
  refine z_aload_n C dX8_kindOf_0 rfl 0 rfl ?_
  refine z_iload_n C dX8_kindOf_1 rfl 1 rfl ?_
  obtain ⟨x4, s5, q_s5, hm⟩ := zBd_of hm
  refine z_cS (vd := false) C 1 [.int v1] [.ref (ad 0)] (c_X8_isLine (zC_I C) (zC_st C)  q_s5) gX8_kindOf_X8_isLine (by decide +kernel) rfl dX8_kindOf_2 rfl ⟨Nat.le_of_ble_eq_true rfl, Nat.le_of_ble_eq_true rfl⟩ rfl (Nat.le_of_ble_eq_true rfl) ?_
  refine z_if_eq (tgt := 12) C dX8_kindOf_5 (by decide) (fun c6 => ?_) (fun c6 => ?_)
  · have hm := zIt hm c6
    refine z_iconst (v := (1 : Int32)) C dX8_kindOf_12 (by decide) ?_
    exact z_sub [0, 1] rfl (w_X8_kindOf_j13 C hQ  _ _ _ hm)
  · have hm := zIf hm c6
    refine z_iconst (v := (0 : Int32)) C dX8_kindOf_8 (by decide) ?_
    refine z_goto (tgt := 13) C dX8_kindOf_9 (by decide) ?_
    exact z_sub [0, 1] rfl (w_X8_kindOf_j13 C hQ  _ _ _ hm)
set_option maxRecDepth 100000 in
set_option maxHeartbeats 4000000 in
theorem c_X8_kindOf {h : zH} {ad : Nat → Nat} (hI : zI ad zLM.length) (hst : h.1.stackTraces = false) {n : Nat} {v1 : Int32} {s s9 : zS} {r : Int32} (hm : m_X8_kindOf n v1 s = some (r, s9)) : zMR h ad zLM false yX8_kindOf wsX8_kindOf 2 42 [.ref (ad 0), .int v1] s (.inl r) s9 :=
  z_start (cc := cX8_kindOf) (nL := 2) (ret := (some .int)) (own := RX8) (by decide +kernel) rfl rfl hI hst (Nat.le_of_ble_eq_true rfl) (fun G C hQ => w_X8_kindOf_e C hQ _ hm)
set_option maxRecDepth 100000 in
theorem eX8_taxed_uX8 : ∀ w ∈ wsX80, w ∈ wsX8_taxed := by decide +kernel
set_option maxRecDepth 100000 in
theorem eX8_taxed_f25 : Cond.fieldLink RX8 25 RX8 (TX8 6).2.1 (TX8 6).2.2.1 ∈ wsX8_taxed := by decide +kernel
set_option maxRecDepth 100000 in
theorem eX8_taxed_c110 : Cond.constantLong RX8 110 (1000 : Int64) ∈ wsX8_taxed := by decide +kernel
set_option maxRecDepth 100000 in
theorem eX8_taxed_f22 : Cond.fieldLink RX8 22 RX8 (TX8 5).2.1 (TX8 5).2.2.1 ∈ wsX8_taxed := by decide +kernel
set_option maxRecDepth 100000 in
theorem eX8_taxed_f106 : Cond.fieldLink RX8 106 RX8 (TX8 4).2.1 (TX8 4).2.2.1 ∈ wsX8_taxed := by decide +kernel
set_option maxRecDepth 100000 in
theorem eX8_taxed_c109 : Cond.constant RX8 109 (1000000000 : Int32) ∈ wsX8_taxed := by decide +kernel
set_option maxRecDepth 100000 in
set_option maxHeartbeats 4000000 in
theorem w_X8_taxed_j115 {h : zH} {ad : Nat → Nat} {G : zG} (C : zC h ad zLM 8 G cX8_taxed RX8 wsX8_taxed 0 0) {n : Nat} {r : Int32} {s9 : zS} (hQ : zQ h ad zLM G false (.inl r) s9 (some .int)) {rec4 : Int32 → Int32 → Int32 → zS → Option (Int32 × zS)} (hrec4 : ∀ (v1 : Int32) (v2 : Int32) (v3 : Int32) (s : zS), rec4 v1 v2 v3 s = some (r, s9) → zV h ad zLM 8 G s 4 [(0, .ref (ad 0)), (1, .int v1), (2, .int v2), (3, .int v3)] []) (v1 : Int32) (v2 : Int32) (v3 : Int32) (t0 : Int64) (s : zS) (hm : m_X8_taxed_j115 rec4 n v1 v2 v3 t0 s = some (r, s9)) : zV h ad zLM 8 G s 115 [(0, .ref (ad 0)), (1, .int v1), (2, .int v2), (3, .int v3)] [.long t0] := by
  rw [m_X8_taxed_j115] at hm
  refine z_lstore (y := t0) (lv' := [(6, .long t0), (0, .ref (ad 0)), (1, .int v1), (2, .int v2), (3, .int v3)]) C dX8_taxed_115 (by decide) rfl rfl ?_
  refine z_iload_n C dX8_taxed_117 rfl 3 rfl ?_
  refine z_lload C dX8_taxed_118 0 rfl ?_
  refine z_aload_n C dX8_taxed_120 rfl 1 rfl ?_
  refine z_getr C kM0 vc8 eX8_taxed_uX8 6 (by decide) rfl eX8_taxed_f25 rfl dX8_taxed_121 ?_
  refine z_iload_n C dX8_taxed_124 rfl 4 rfl ?_
  obtain ⟨x1, i_x1, e_x1, hm⟩ := zRd_of hm
  refine z_iald C kM6 i_x1 e_x1 dX8_taxed_125 ?_
  refine z_i2l C dX8_taxed_126 ?_
  refine z_lmul C dX8_taxed_127 ?_
  refine z_ldc2 (v := (1000 : Int64)) C eX8_taxed_c110 dX8_taxed_128 ?_
  refine z_ldiv C dX8_taxed_131 (by decide) ?_
  refine z_l2i C dX8_taxed_132 ?_
  refine z_iadd C dX8_taxed_133 ?_
  obtain ⟨x2, e_x2, hm⟩ := zLt_of hm
  refine z_istore_n (y := x2) (lv' := [(2, .int x2), (6, .long t0), (0, .ref (ad 0)), (1, .int v1), (3, .int v3)]) C dX8_taxed_134 rfl (by decide) e_x2 rfl ?_
  obtain ⟨x3, e_x3, hm⟩ := zLt_of hm
  refine z_iinc (j := 4) (v := x3) (d := (1 : Int32)) (lv' := [(3, .int x3), (2, .int x2), (6, .long t0), (0, .ref (ad 0)), (1, .int v1)]) C dX8_taxed_135 rfl (by decide) e_x3 (by decide) rfl ?_
  refine z_goto (tgt := 4) C dX8_taxed_138 (by decide) ?_
  exact z_sub [3, 4, 1, 0] rfl (hrec4 _ _ _ _ hm)
set_option maxRecDepth 100000 in
set_option maxHeartbeats 4000000 in
theorem w_X8_taxed_j88 {h : zH} {ad : Nat → Nat} {G : zG} (C : zC h ad zLM 8 G cX8_taxed RX8 wsX8_taxed 0 0) {n : Nat} {r : Int32} {s9 : zS} (hQ : zQ h ad zLM G false (.inl r) s9 (some .int)) {rec4 : Int32 → Int32 → Int32 → zS → Option (Int32 × zS)} (hrec4 : ∀ (v1 : Int32) (v2 : Int32) (v3 : Int32) (s : zS), rec4 v1 v2 v3 s = some (r, s9) → zV h ad zLM 8 G s 4 [(0, .ref (ad 0)), (1, .int v1), (2, .int v2), (3, .int v3)] []) (v1 : Int32) (v2 : Int32) (v3 : Int32) (t0 : Int32) (s : zS) (hm : m_X8_taxed_j88 rec4 n v1 v2 v3 t0 s = some (r, s9)) : zV h ad zLM 8 G s 88 [(0, .ref (ad 0)), (1, .int v1), (2, .int v2), (3, .int v3)] [.int t0] := by
  rw [m_X8_taxed_j88] at hm
  refine z_istore (y := t0) (lv' := [(5, .int t0), (0, .ref (ad 0)), (1, .int v1), (2, .int v2), (3, .int v3)]) C dX8_taxed_88 (by decide) rfl rfl ?_
  refine z_iload C dX8_taxed_90 0 rfl ?_
  refine z_aload_n C dX8_taxed_92 rfl 1 rfl ?_
  refine z_getr C kM0 vc8 eX8_taxed_uX8 5 (by decide) rfl eX8_taxed_f22 rfl dX8_taxed_93 ?_
  refine z_iload_n C dX8_taxed_96 rfl 4 rfl ?_
  obtain ⟨x4, i_x4, e_x4, hm⟩ := zRd_of hm
  refine z_iald C kM5 i_x4 e_x4 dX8_taxed_97 ?_
  refine z_icmp_le (tgt := 114) C dX8_taxed_98 (by decide) (fun c5 => ?_) (fun c5 => ?_)
  · have hm := zIt hm c5
    refine z_lconst (v := (0 : Int64)) C dX8_taxed_114 (by decide) ?_
    exact z_sub [1, 2, 3, 4] rfl (w_X8_taxed_j115 C hQ hrec4 _ _ _ _ _ hm)
  · have hm := zIf hm c5
    refine z_iload C dX8_taxed_101 0 rfl ?_
    refine z_aload_n C dX8_taxed_103 rfl 1 rfl ?_
    refine z_getr C kM0 vc8 eX8_taxed_uX8 5 (by decide) rfl eX8_taxed_f22 rfl dX8_taxed_104 ?_
    refine z_iload_n C dX8_taxed_107 rfl 4 rfl ?_
    obtain ⟨x6, i_x6, e_x6, hm⟩ := zRd_of hm
    refine z_iald C kM5 i_x6 e_x6 dX8_taxed_108 ?_
    refine z_isub C dX8_taxed_109 ?_
    refine z_i2l C dX8_taxed_110 ?_
    refine z_goto (tgt := 115) C dX8_taxed_111 (by decide) ?_
    exact z_sub [1, 2, 3, 4] rfl (w_X8_taxed_j115 C hQ hrec4 _ _ _ _ _ hm)
set_option maxRecDepth 100000 in
set_option maxHeartbeats 4000000 in
theorem w_X8_taxed_j19 {h : zH} {ad : Nat → Nat} {G : zG} (C : zC h ad zLM 8 G cX8_taxed RX8 wsX8_taxed 0 0) {n : Nat} {r : Int32} {s9 : zS} (hQ : zQ h ad zLM G false (.inl r) s9 (some .int)) {rec4 : Int32 → Int32 → Int32 → zS → Option (Int32 × zS)} (hrec4 : ∀ (v1 : Int32) (v2 : Int32) (v3 : Int32) (s : zS), rec4 v1 v2 v3 s = some (r, s9) → zV h ad zLM 8 G s 4 [(0, .ref (ad 0)), (1, .int v1), (2, .int v2), (3, .int v3)] []) : ∀ (f : Nat) (v1 : Int32) (v2 : Int32) (v3 : Int32) (v4 : Int32) (v5 : Int32) (s : zS), m_X8_taxed_j19 rec4 n f v1 v2 v3 v4 v5 s = some (r, s9) → zV h ad zLM 8 G s 19 [(0, .ref (ad 0)), (1, .int v1), (2, .int v2), (3, .int v3), (4, .int v4), (5, .int v5)] [] := by
  intro f
  induction f with
  | zero => intro v1 v2 v3 v4 v5 s hm; simp [m_X8_taxed_j19] at hm
  | succ f ih =>
    intro v1 v2 v3 v4 v5 s hm
    rw [m_X8_taxed_j19] at hm
    refine z_iload C dX8_taxed_19 5 rfl ?_
    refine z_aload_n C dX8_taxed_21 rfl 0 rfl ?_
    refine z_get C kM0 vc8 eX8_taxed_uX8 4 (by decide) rfl eX8_taxed_f106 rfl dX8_taxed_22 ?_
    refine z_icmp_ge (tgt := 76) C dX8_taxed_25 (by decide) (fun c7 => ?_) (fun c7 => ?_)
    · have hm := zIt hm c7
      refine z_iload_n C dX8_taxed_76 rfl 1 rfl ?_
      refine z_iload C dX8_taxed_77 4 rfl ?_
      refine z_icmp_ge (tgt := 86) C dX8_taxed_79 (by decide) (fun c8 => ?_) (fun c8 => ?_)
      · have hm := zIt hm c8
        refine z_iload C dX8_taxed_86 4 rfl ?_
        exact z_sub [0, 1, 2, 3] rfl (w_X8_taxed_j88 C hQ hrec4 _ _ _ _ _ hm)
      · have hm := zIf hm c8
        refine z_iload_n C dX8_taxed_82 rfl 1 rfl ?_
        refine z_goto (tgt := 88) C dX8_taxed_83 (by decide) ?_
        exact z_sub [0, 1, 2, 3] rfl (w_X8_taxed_j88 C hQ hrec4 _ _ _ _ _ hm)
    · have hm := zIf hm c7
      refine z_aload_n C dX8_taxed_28 rfl 0 rfl ?_
      refine z_getr C kM0 vc8 eX8_taxed_uX8 5 (by decide) rfl eX8_taxed_f22 rfl dX8_taxed_29 ?_
      refine z_iload C dX8_taxed_32 5 rfl ?_
      obtain ⟨x9, i_x9, e_x9, hm⟩ := zRd_of hm
      refine z_iald C kM5 i_x9 e_x9 dX8_taxed_34 ?_
      refine z_aload_n C dX8_taxed_35 rfl 0 rfl ?_
      refine z_getr C kM0 vc8 eX8_taxed_uX8 5 (by decide) rfl eX8_taxed_f22 rfl dX8_taxed_36 ?_
      refine z_iload_n C dX8_taxed_39 rfl 3 rfl ?_
      obtain ⟨x10, i_x10, e_x10, hm⟩ := zRd_of hm
      refine z_iald C kM5 i_x10 e_x10 dX8_taxed_40 ?_
      refine z_icmp_le (tgt := 66) C dX8_taxed_41 (by decide) (fun c11 => ?_) (fun c11 => ?_)
      · have hm := zIt hm c11
        refine z_iload C dX8_taxed_66 4 rfl ?_
        refine z_istore (y := v4) (lv' := [(4, .int v4), (0, .ref (ad 0)), (1, .int v1), (2, .int v2), (3, .int v3), (5, .int v5)]) C dX8_taxed_68 (by decide) rfl rfl ?_
        obtain ⟨x12, e_x12, hm⟩ := zLt_of hm
        refine z_iinc (j := 5) (v := x12) (d := (1 : Int32)) (lv' := [(5, .int x12), (4, .int v4), (0, .ref (ad 0)), (1, .int v1), (2, .int v2), (3, .int v3)]) C dX8_taxed_70 rfl (by decide) e_x12 (by decide) rfl ?_
        refine z_goto (tgt := 19) C dX8_taxed_73 (by decide) ?_
        exact z_sub [2, 3, 4, 5, 1, 0] rfl (ih _ _ _ _ _ _ hm)
      · have hm := zIf hm c11
        refine z_aload_n C dX8_taxed_44 rfl 0 rfl ?_
        refine z_getr C kM0 vc8 eX8_taxed_uX8 5 (by decide) rfl eX8_taxed_f22 rfl dX8_taxed_45 ?_
        refine z_iload C dX8_taxed_48 5 rfl ?_
        obtain ⟨x13, i_x13, e_x13, hm⟩ := zRd_of hm
        refine z_iald C kM5 i_x13 e_x13 dX8_taxed_50 ?_
        refine z_iload C dX8_taxed_51 4 rfl ?_
        refine z_icmp_ge (tgt := 66) C dX8_taxed_53 (by decide) (fun c14 => ?_) (fun c14 => ?_)
        · have hm := zIt hm c14
          refine z_iload C dX8_taxed_66 4 rfl ?_
          refine z_istore (y := v4) (lv' := [(4, .int v4), (0, .ref (ad 0)), (1, .int v1), (2, .int v2), (3, .int v3), (5, .int v5)]) C dX8_taxed_68 (by decide) rfl rfl ?_
          obtain ⟨x15, e_x15, hm⟩ := zLt_of hm
          refine z_iinc (j := 5) (v := x15) (d := (1 : Int32)) (lv' := [(5, .int x15), (4, .int v4), (0, .ref (ad 0)), (1, .int v1), (2, .int v2), (3, .int v3)]) C dX8_taxed_70 rfl (by decide) e_x15 (by decide) rfl ?_
          refine z_goto (tgt := 19) C dX8_taxed_73 (by decide) ?_
          exact z_sub [2, 3, 4, 5, 1, 0] rfl (ih _ _ _ _ _ _ hm)
        · have hm := zIf hm c14
          refine z_aload_n C dX8_taxed_56 rfl 0 rfl ?_
          refine z_getr C kM0 vc8 eX8_taxed_uX8 5 (by decide) rfl eX8_taxed_f22 rfl dX8_taxed_57 ?_
          refine z_iload C dX8_taxed_60 5 rfl ?_
          obtain ⟨x16, i_x16, e_x16, hm⟩ := zRd_of hm
          refine z_iald C kM5 i_x16 e_x16 dX8_taxed_62 ?_
          refine z_goto (tgt := 68) C dX8_taxed_63 (by decide) ?_
          refine z_istore (y := x16) (lv' := [(4, .int x16), (0, .ref (ad 0)), (1, .int v1), (2, .int v2), (3, .int v3), (5, .int v5)]) C dX8_taxed_68 (by decide) rfl rfl ?_
          obtain ⟨x17, e_x17, hm⟩ := zLt_of hm
          refine z_iinc (j := 5) (v := x17) (d := (1 : Int32)) (lv' := [(5, .int x17), (4, .int x16), (0, .ref (ad 0)), (1, .int v1), (2, .int v2), (3, .int v3)]) C dX8_taxed_70 rfl (by decide) e_x17 (by decide) rfl ?_
          refine z_goto (tgt := 19) C dX8_taxed_73 (by decide) ?_
          exact z_sub [2, 3, 4, 5, 1, 0] rfl (ih _ _ _ _ _ _ hm)
set_option maxRecDepth 100000 in
set_option maxHeartbeats 4000000 in
theorem w_X8_taxed_j4 {h : zH} {ad : Nat → Nat} {G : zG} (C : zC h ad zLM 8 G cX8_taxed RX8 wsX8_taxed 0 0) {n : Nat} {r : Int32} {s9 : zS} (hQ : zQ h ad zLM G false (.inl r) s9 (some .int)) : ∀ (f : Nat) (v1 : Int32) (v2 : Int32) (v3 : Int32) (s : zS), m_X8_taxed_j4 n f v1 v2 v3 s = some (r, s9) → zV h ad zLM 8 G s 4 [(0, .ref (ad 0)), (1, .int v1), (2, .int v2), (3, .int v3)] [] := by
  intro f
  induction f with
  | zero => intro v1 v2 v3 s hm; simp [m_X8_taxed_j4] at hm
  | succ f ih =>
    intro v1 v2 v3 s hm
    rw [m_X8_taxed_j4] at hm
    refine z_iload_n C dX8_taxed_4 rfl 3 rfl ?_
    refine z_aload_n C dX8_taxed_5 rfl 0 rfl ?_
    refine z_get C kM0 vc8 eX8_taxed_uX8 4 (by decide) rfl eX8_taxed_f106 rfl dX8_taxed_6 ?_
    refine z_icmp_ge (tgt := 141) C dX8_taxed_9 (by decide) (fun c18 => ?_) (fun c18 => ?_)
    · have hm := zIt hm c18
      refine z_iload_n C dX8_taxed_141 rfl 2 rfl ?_
      exact z_iret0 C hQ (zRt_of hm).1 (zRt_of hm).2 dX8_taxed_142
    · have hm := zIf hm c18
      refine z_ldc (v := (1000000000 : Int32)) C eX8_taxed_c109 dX8_taxed_12 ?_
      refine z_istore (y := (1000000000 : Int32)) (lv' := [(4, .int (1000000000 : Int32)), (0, .ref (ad 0)), (1, .int v1), (2, .int v2), (3, .int v3)]) C dX8_taxed_14 (by decide) rfl rfl ?_
      refine z_iconst (v := (0 : Int32)) C dX8_taxed_16 (by decide) ?_
      refine z_istore (y := (0 : Int32)) (lv' := [(5, .int (0 : Int32)), (4, .int (1000000000 : Int32)), (0, .ref (ad 0)), (1, .int v1), (2, .int v2), (3, .int v3)]) C dX8_taxed_17 (by decide) rfl rfl ?_
      exact z_sub [2, 3, 4, 5, 1, 0] rfl (w_X8_taxed_j19 C hQ ih _ _ _ _ _ _ _ hm)
set_option maxRecDepth 100000 in
set_option maxHeartbeats 4000000 in
theorem w_X8_taxed_e {h : zH} {ad : Nat → Nat} {G : zG} (C : zC h ad zLM 8 G cX8_taxed RX8 wsX8_taxed 0 0) {n : Nat} {r : Int32} {s9 : zS} (hQ : zQ h ad zLM G false (.inl r) s9 (some .int)) {v1 : Int32} (s : zS) (hm : m_X8_taxed n v1 s = some (r, s9)) : zV h ad zLM 8 G s 0 [(0, .ref (ad 0)), (1, .int v1)] [] := by
  rw [m_X8_taxed] at hm
  refine z_iconst (v := (0 : Int32)) C dX8_taxed_0 (by decide) ?_
  refine z_istore_n (y := (0 : Int32)) (lv' := [(2, .int (0 : Int32)), (0, .ref (ad 0)), (1, .int v1)]) C dX8_taxed_1 rfl (by decide) rfl rfl ?_
  refine z_iconst (v := (0 : Int32)) C dX8_taxed_2 (by decide) ?_
  refine z_istore_n (y := (0 : Int32)) (lv' := [(3, .int (0 : Int32)), (2, .int (0 : Int32)), (0, .ref (ad 0)), (1, .int v1)]) C dX8_taxed_3 rfl (by decide) rfl rfl ?_
  exact z_sub [2, 3, 1, 0] rfl (w_X8_taxed_j4 C hQ  _ _ _ _ _ hm)
set_option maxRecDepth 100000 in
set_option maxHeartbeats 4000000 in
theorem c_X8_taxed {h : zH} {ad : Nat → Nat} (hI : zI ad zLM.length) (hst : h.1.stackTraces = false) {n : Nat} {v1 : Int32} {s s9 : zS} {r : Int32} (hm : m_X8_taxed n v1 s = some (r, s9)) : zMR h ad zLM false yX8_taxed wsX8_taxed 0 0 [.ref (ad 0), .int v1] s (.inl r) s9 :=
  z_start (cc := cX8_taxed) (nL := 8) (ret := (some .int)) (own := RX8) (by decide +kernel) rfl rfl hI hst (Nat.le_of_ble_eq_true rfl) (fun G C hQ => w_X8_taxed_e C hQ _ hm)
set_option maxRecDepth 100000 in
theorem eX8_all_uX8 : ∀ w ∈ wsX80, w ∈ wsX8_all := by decide +kernel
set_option maxRecDepth 100000 in
theorem eX8_all_f112 : Cond.fieldLink RX8 112 RX8 (TX8 8).2.1 (TX8 8).2.2.1 ∈ wsX8_all := by decide +kernel
set_option maxRecDepth 100000 in
theorem eX8_all_f28 : Cond.fieldLink RX8 28 RX8 (TX8 9).2.1 (TX8 9).2.2.1 ∈ wsX8_all := by decide +kernel
set_option maxRecDepth 100000 in
set_option maxHeartbeats 4000000 in
theorem w_X8_all_j4 {h : zH} {ad : Nat → Nat} {G : zG} (C : zC h ad zLM 3 G cX8_all RX8 wsX8_all 0 0) {n : Nat} {r : Int32} {s9 : zS} (hQ : zQ h ad zLM G false (.inl r) s9 (some .int)) : ∀ (f : Nat) (v1 : Int32) (v2 : Int32) (s : zS), m_X8_all_j4 n f v1 v2 s = some (r, s9) → zV h ad zLM 3 G s 4 [(0, .ref (ad 0)), (1, .int v1), (2, .int v2)] [] := by
  intro f
  induction f with
  | zero => intro v1 v2 s hm; simp [m_X8_all_j4] at hm
  | succ f ih =>
    intro v1 v2 s hm
    rw [m_X8_all_j4] at hm
    refine z_iload_n C dX8_all_4 rfl 2 rfl ?_
    refine z_aload_n C dX8_all_5 rfl 0 rfl ?_
    refine z_get C kM0 vc8 eX8_all_uX8 8 (by decide) rfl eX8_all_f112 rfl dX8_all_6 ?_
    refine z_icmp_ge (tgt := 27) C dX8_all_9 (by decide) (fun c1 => ?_) (fun c1 => ?_)
    · have hm := zIt hm c1
      refine z_iload_n C dX8_all_27 rfl 1 rfl ?_
      exact z_iret0 C hQ (zRt_of hm).1 (zRt_of hm).2 dX8_all_28
    · have hm := zIf hm c1
      refine z_iload_n C dX8_all_12 rfl 1 rfl ?_
      refine z_aload_n C dX8_all_13 rfl 0 rfl ?_
      refine z_getr C kM0 vc8 eX8_all_uX8 9 (by decide) rfl eX8_all_f28 rfl dX8_all_14 ?_
      refine z_iload_n C dX8_all_17 rfl 2 rfl ?_
      obtain ⟨x2, i_x2, e_x2, hm⟩ := zRd_of hm
      refine z_iald C kM7 i_x2 e_x2 dX8_all_18 ?_
      refine z_iadd C dX8_all_19 ?_
      obtain ⟨x3, e_x3, hm⟩ := zLt_of hm
      refine z_istore_n (y := x3) (lv' := [(1, .int x3), (0, .ref (ad 0)), (2, .int v2)]) C dX8_all_20 rfl (by decide) e_x3 rfl ?_
      obtain ⟨x4, e_x4, hm⟩ := zLt_of hm
      refine z_iinc (j := 2) (v := x4) (d := (1 : Int32)) (lv' := [(2, .int x4), (1, .int x3), (0, .ref (ad 0))]) C dX8_all_21 rfl (by decide) e_x4 (by decide) rfl ?_
      refine z_goto (tgt := 4) C dX8_all_24 (by decide) ?_
      exact z_sub [2, 1, 0] rfl (ih _ _ _ hm)
set_option maxRecDepth 100000 in
set_option maxHeartbeats 4000000 in
theorem w_X8_all_e {h : zH} {ad : Nat → Nat} {G : zG} (C : zC h ad zLM 3 G cX8_all RX8 wsX8_all 0 0) {n : Nat} {r : Int32} {s9 : zS} (hQ : zQ h ad zLM G false (.inl r) s9 (some .int))  (s : zS) (hm : m_X8_all n s = some (r, s9)) : zV h ad zLM 3 G s 0 [(0, .ref (ad 0))] [] := by
  rw [m_X8_all] at hm
  refine z_iconst (v := (0 : Int32)) C dX8_all_0 (by decide) ?_
  refine z_istore_n (y := (0 : Int32)) (lv' := [(1, .int (0 : Int32)), (0, .ref (ad 0))]) C dX8_all_1 rfl (by decide) rfl rfl ?_
  refine z_iconst (v := (0 : Int32)) C dX8_all_2 (by decide) ?_
  refine z_istore_n (y := (0 : Int32)) (lv' := [(2, .int (0 : Int32)), (1, .int (0 : Int32)), (0, .ref (ad 0))]) C dX8_all_3 rfl (by decide) rfl rfl ?_
  exact z_sub [2, 1, 0] rfl (w_X8_all_j4 C hQ  _ _ _ _ hm)
set_option maxRecDepth 100000 in
set_option maxHeartbeats 4000000 in
theorem c_X8_all {h : zH} {ad : Nat → Nat} (hI : zI ad zLM.length) (hst : h.1.stackTraces = false) {n : Nat} {s s9 : zS} {r : Int32} (hm : m_X8_all n s = some (r, s9)) : zMR h ad zLM false yX8_all wsX8_all 0 0 [.ref (ad 0)] s (.inl r) s9 :=
  z_start (cc := cX8_all) (nL := 3) (ret := (some .int)) (own := RX8) (by decide +kernel) rfl rfl hI hst (Nat.le_of_ble_eq_true rfl) (fun G C hQ => w_X8_all_e C hQ _ hm)
set_option maxRecDepth 100000 in
theorem eX8_works_uX8 : ∀ w ∈ wsX80, w ∈ wsX8_works := by decide +kernel
set_option maxRecDepth 100000 in
theorem eX8_works_f16 : Cond.fieldLink RX8 16 RX8 (TX8 2).2.1 (TX8 2).2.2.1 ∈ wsX8_works := by decide +kernel
set_option maxRecDepth 100000 in
theorem eX8_works_c110 : Cond.constantLong RX8 110 (1000 : Int64) ∈ wsX8_works := by decide +kernel
set_option maxRecDepth 100000 in
theorem eX8_works_c109 : Cond.constant RX8 109 (1000000000 : Int32) ∈ wsX8_works := by decide +kernel
set_option maxRecDepth 100000 in
theorem eX8_works_f19 : Cond.fieldLink RX8 19 RX8 (TX8 3).2.1 (TX8 3).2.2.1 ∈ wsX8_works := by decide +kernel
set_option maxRecDepth 100000 in
theorem eX8_works_f40 : Cond.fieldLink RX8 40 RX8 (TX8 14).2.1 (TX8 14).2.2.1 ∈ wsX8_works := by decide +kernel
set_option maxRecDepth 100000 in
theorem eX8_works_f7 : Cond.fieldLink RX8 7 RX8 (TX8 0).2.1 (TX8 0).2.2.1 ∈ wsX8_works := by decide +kernel
set_option maxRecDepth 100000 in
theorem eX8_works_f13 : Cond.fieldLink RX8 13 RX8 (TX8 1).2.1 (TX8 1).2.2.1 ∈ wsX8_works := by decide +kernel
set_option maxRecDepth 100000 in
set_option maxHeartbeats 4000000 in
theorem w_X8_works_j190 {h : zH} {ad : Nat → Nat} {G : zG} (C : zC h ad zLM 7 G cX8_works RX8 wsX8_works 1 27) {n : Nat} {r : Int32} {s9 : zS} (hQ : zQ h ad zLM G false (.inl r) s9 (some .int)) (v4 : Int32) (t0 : Int32) (s : zS) (hm : m_X8_works_j190 n v4 t0 s = some (r, s9)) : zV h ad zLM 7 G s 190 [(4, .int v4)] [.int t0] := by
  rw [m_X8_works_j190] at hm
  refine z_istore (y := t0) (lv' := [(6, .int t0), (4, .int v4)]) C dX8_works_190 (by decide) rfl rfl ?_
  refine z_iload C dX8_works_192 1 rfl ?_
  refine z_iload C dX8_works_194 0 rfl ?_
  refine z_icmp_ge (tgt := 204) C dX8_works_196 (by decide) (fun c1 => ?_) (fun c1 => ?_)
  · have hm := zIt hm c1
    refine z_iload C dX8_works_204 0 rfl ?_
    exact z_iret0 C hQ (zRt_of hm).1 (zRt_of hm).2 dX8_works_206
  · have hm := zIf hm c1
    refine z_iload C dX8_works_199 1 rfl ?_
    refine z_goto (tgt := 206) C dX8_works_201 (by decide) ?_
    exact z_iret0 C hQ (zRt_of hm).1 (zRt_of hm).2 dX8_works_206
set_option maxRecDepth 100000 in
set_option maxHeartbeats 4000000 in
theorem w_X8_works_j59 {h : zH} {ad : Nat → Nat} {G : zG} (C : zC h ad zLM 7 G cX8_works RX8 wsX8_works 1 27) {n : Nat} {r : Int32} {s9 : zS} (hQ : zQ h ad zLM G false (.inl r) s9 (some .int)) (v1 : Int32) (v3 : Int32) (v4 : Int32) (t0 : Int32) (s : zS) (hm : m_X8_works_j59 n v1 v3 v4 t0 s = some (r, s9)) : zV h ad zLM 7 G s 59 [(0, .ref (ad 0)), (1, .int v1), (3, .int v3), (4, .int v4)] [.int t0] := by
  rw [m_X8_works_j59] at hm
  refine z_istore (y := t0) (lv' := [(5, .int t0), (0, .ref (ad 0)), (1, .int v1), (3, .int v3), (4, .int v4)]) C dX8_works_59 (by decide) rfl rfl ?_
  refine z_iload_n C dX8_works_61 rfl 3 rfl ?_
  refine z_if_ne (tgt := 72) C dX8_works_62 (by decide) (fun c2 => ?_) (fun c2 => ?_)
  · have hm := zIf hm c2
    refine z_iload_n C dX8_works_72 rfl 3 rfl ?_
    refine z_iconst (v := (1 : Int32)) C dX8_works_73 (by decide) ?_
    refine z_icmp_ne (tgt := 98) C dX8_works_74 (by decide) (fun c3 => ?_) (fun c3 => ?_)
    · have hm := zIf hm c3
      refine z_iload_n C dX8_works_98 rfl 3 rfl ?_
      refine z_iconst (v := (2 : Int32)) C dX8_works_99 (by decide) ?_
      refine z_icmp_ne (tgt := 120) C dX8_works_100 (by decide) (fun c4 => ?_) (fun c4 => ?_)
      · have hm := zIf hm c4
        refine z_iload_n C dX8_works_120 rfl 3 rfl ?_
        refine z_iconst (v := (3 : Int32)) C dX8_works_121 (by decide) ?_
        refine z_icmp_ne (tgt := 142) C dX8_works_122 (by decide) (fun c5 => ?_) (fun c5 => ?_)
        · have hm := zIf hm c5
          refine z_iload_n C dX8_works_142 rfl 3 rfl ?_
          refine z_iconst (v := (5 : Int32)) C dX8_works_143 (by decide) ?_
          refine z_icmp_ne (tgt := 162) C dX8_works_144 (by decide) (fun c6 => ?_) (fun c6 => ?_)
          · have hm := zIf hm c6
            refine z_iload_n C dX8_works_162 rfl 3 rfl ?_
            refine z_bipush (v := (6 : Int32)) C dX8_works_163 (by decide) ?_
            refine z_icmp_ne (tgt := 175) C dX8_works_165 (by decide) (fun c7 => ?_) (fun c7 => ?_)
            · have hm := zIf hm c7
              refine z_iload_n C dX8_works_175 rfl 3 rfl ?_
              refine z_bipush (v := (7 : Int32)) C dX8_works_176 (by decide) ?_
              refine z_icmp_ne (tgt := 188) C dX8_works_178 (by decide) (fun c8 => ?_) (fun c8 => ?_)
              · have hm := zIf hm c8
                refine z_iload C dX8_works_188 0 rfl ?_
                exact z_sub [4] rfl (w_X8_works_j190 C hQ  _ _ _ hm)
              · have hm := zIt hm c8
                refine z_aload_n C dX8_works_181 rfl 1 rfl ?_
                obtain ⟨x9, s10, q_s10, hm⟩ := zBd_of hm
                refine z_cV (vd := false) (Cn := RX8) (k := 0) C 0 [] [] (c_X8_all (zC_I C) (zC_st C)  q_s10) gX8_works_X8_all (by decide +kernel) kM0 vc8 rfl rfl dX8_works_182 rfl ⟨Nat.le_of_ble_eq_true rfl, Nat.le_of_ble_eq_true rfl⟩ rfl (Nat.le_of_ble_eq_true rfl) ?_
                refine z_goto (tgt := 190) C dX8_works_185 (by decide) ?_
                exact z_sub [4] rfl (w_X8_works_j190 C hQ  _ _ _ hm)
            · have hm := zIt hm c7
              refine z_aload_n C dX8_works_168 rfl 1 rfl ?_
              refine z_iload C dX8_works_169 4 rfl ?_
              obtain ⟨x11, s12, q_s12, hm⟩ := zBd_of hm
              refine z_cV (vd := false) (Cn := RX8) (k := 0) C 1 [.int v4] [] (c_X8_taxed (zC_I C) (zC_st C)  q_s12) gX8_works_X8_taxed (by decide +kernel) kM0 vc8 rfl rfl dX8_works_171 rfl ⟨Nat.le_of_ble_eq_true rfl, Nat.le_of_ble_eq_true rfl⟩ rfl (Nat.le_of_ble_eq_true rfl) ?_
              exact z_iret0 C hQ (zRt_of hm).1 (zRt_of hm).2 dX8_works_174
          · have hm := zIt hm c6
            refine z_iload C dX8_works_147 4 rfl ?_
            refine z_iload C dX8_works_149 0 rfl ?_
            refine z_icmp_le (tgt := 159) C dX8_works_151 (by decide) (fun c13 => ?_) (fun c13 => ?_)
            · have hm := zIt hm c13
              refine z_iload C dX8_works_159 0 rfl ?_
              exact z_iret0 C hQ (zRt_of hm).1 (zRt_of hm).2 dX8_works_161
            · have hm := zIf hm c13
              refine z_iload C dX8_works_154 4 rfl ?_
              refine z_goto (tgt := 161) C dX8_works_156 (by decide) ?_
              exact z_iret0 C hQ (zRt_of hm).1 (zRt_of hm).2 dX8_works_161
        · have hm := zIt hm c5
          refine z_iload C dX8_works_125 4 rfl ?_
          refine z_i2l C dX8_works_127 ?_
          refine z_aload_n C dX8_works_128 rfl 1 rfl ?_
          refine z_getr C kM0 vc8 eX8_works_uX8 2 (by decide) rfl eX8_works_f16 rfl dX8_works_129 ?_
          refine z_iload_n C dX8_works_132 rfl 2 rfl ?_
          obtain ⟨x14, i_x14, e_x14, hm⟩ := zRd_of hm
          refine z_iald C kM3 i_x14 e_x14 dX8_works_133 ?_
          refine z_i2l C dX8_works_134 ?_
          refine z_lmul C dX8_works_135 ?_
          refine z_ldc2 (v := (1000 : Int64)) C eX8_works_c110 dX8_works_136 ?_
          refine z_ldiv C dX8_works_139 (by decide) ?_
          refine z_l2i C dX8_works_140 ?_
          exact z_iret0 C hQ (zRt_of hm).1 (zRt_of hm).2 dX8_works_141
      · have hm := zIt hm c4
        refine z_iload C dX8_works_103 4 rfl ?_
        refine z_iload C dX8_works_105 0 rfl ?_
        refine z_icmp_le (tgt := 118) C dX8_works_107 (by decide) (fun c15 => ?_) (fun c15 => ?_)
        · have hm := zIt hm c15
          refine z_iconst (v := (0 : Int32)) C dX8_works_118 (by decide) ?_
          exact z_iret0 C hQ (zRt_of hm).1 (zRt_of hm).2 dX8_works_119
        · have hm := zIf hm c15
          refine z_iload C dX8_works_110 4 rfl ?_
          refine z_iload C dX8_works_112 0 rfl ?_
          refine z_isub C dX8_works_114 ?_
          refine z_goto (tgt := 119) C dX8_works_115 (by decide) ?_
          exact z_iret0 C hQ (zRt_of hm).1 (zRt_of hm).2 dX8_works_119
    · have hm := zIt hm c3
      refine z_iload C dX8_works_77 4 rfl ?_
      refine z_ldc (v := (1000000000 : Int32)) C eX8_works_c109 dX8_works_79 ?_
      refine z_iload C dX8_works_81 0 rfl ?_
      refine z_isub C dX8_works_83 ?_
      refine z_icmp_le (tgt := 92) C dX8_works_84 (by decide) (fun c16 => ?_) (fun c16 => ?_)
      · have hm := zIt hm c16
        refine z_iload C dX8_works_92 4 rfl ?_
        refine z_iload C dX8_works_94 0 rfl ?_
        refine z_iadd C dX8_works_96 ?_
        exact z_iret0 C hQ (zRt_of hm).1 (zRt_of hm).2 dX8_works_97
      · have hm := zIf hm c16
        refine z_ldc (v := (1000000000 : Int32)) C eX8_works_c109 dX8_works_87 ?_
        refine z_goto (tgt := 97) C dX8_works_89 (by decide) ?_
        exact z_iret0 C hQ (zRt_of hm).1 (zRt_of hm).2 dX8_works_97
  · have hm := zIt hm c2
    refine z_aload_n C dX8_works_65 rfl 1 rfl ?_
    refine z_getr C kM0 vc8 eX8_works_uX8 3 (by decide) rfl eX8_works_f19 rfl dX8_works_66 ?_
    refine z_iload_n C dX8_works_69 rfl 2 rfl ?_
    obtain ⟨x17, i_x17, e_x17, hm⟩ := zRd_of hm
    refine z_iald C kM4 i_x17 e_x17 dX8_works_70 ?_
    exact z_iret0 C hQ (zRt_of hm).1 (zRt_of hm).2 dX8_works_71
set_option maxRecDepth 100000 in
set_option maxHeartbeats 4000000 in
theorem w_X8_works_j32 {h : zH} {ad : Nat → Nat} {G : zG} (C : zC h ad zLM 7 G cX8_works RX8 wsX8_works 1 27) {n : Nat} {r : Int32} {s9 : zS} (hQ : zQ h ad zLM G false (.inl r) s9 (some .int)) (v1 : Int32) (v2 : Int32) (v3 : Int32) (t0 : Int32) (s : zS) (hm : m_X8_works_j32 n v1 v2 v3 t0 s = some (r, s9)) : zV h ad zLM 7 G s 32 [(0, .ref (ad 0)), (1, .int v1), (2, .int v2), (3, .int v3)] [.int t0] := by
  rw [m_X8_works_j32] at hm
  refine z_istore (y := t0) (lv' := [(4, .int t0), (0, .ref (ad 0)), (1, .int v1), (2, .int v2), (3, .int v3)]) C dX8_works_32 (by decide) rfl rfl ?_
  refine z_aload_n C dX8_works_34 rfl 1 rfl ?_
  refine z_iload_n C dX8_works_35 rfl 2 rfl ?_
  obtain ⟨x18, s19, q_s19, hm⟩ := zBd_of hm
  refine z_cV (vd := false) (Cn := RX8) (k := 0) C 1 [.int v1] [] (c_X8_usesSecond (zC_I C) (zC_st C)  q_s19) gX8_works_X8_usesSecond (by decide +kernel) kM0 vc8 rfl rfl dX8_works_36 rfl ⟨Nat.le_of_ble_eq_true rfl, Nat.le_of_ble_eq_true rfl⟩ rfl (Nat.le_of_ble_eq_true rfl) ?_
  refine z_if_eq (tgt := 58) C dX8_works_39 (by decide) (fun c20 => ?_) (fun c20 => ?_)
  · have hm := zIt hm c20
    refine z_iconst (v := (0 : Int32)) C dX8_works_58 (by decide) ?_
    exact z_sub [1, 2, 4, 0] rfl (w_X8_works_j59 C hQ  _ _ _ _ _ hm)
  · have hm := zIf hm c20
    refine z_aload_n C dX8_works_42 rfl 1 rfl ?_
    refine z_getr C kM0 vc8 eX8_works_uX8 14 (by decide) rfl eX8_works_f40 rfl dX8_works_43 ?_
    refine z_iload_n C dX8_works_46 rfl 3 rfl ?_
    refine z_aload_n C dX8_works_47 rfl 1 rfl ?_
    refine z_getr C kM0 vc8 eX8_works_uX8 2 (by decide) rfl eX8_works_f16 rfl dX8_works_48 ?_
    refine z_iload_n C dX8_works_51 rfl 2 rfl ?_
    obtain ⟨x21, i_x21, e_x21, hm⟩ := zRd_of hm
    refine z_iald C kM3 i_x21 e_x21 dX8_works_52 ?_
    refine z_iadd C dX8_works_53 ?_
    obtain ⟨x22, i_x22, e_x22, hm⟩ := zRd_of hm
    refine z_iald C kM11 i_x22 e_x22 dX8_works_54 ?_
    refine z_goto (tgt := 59) C dX8_works_55 (by decide) ?_
    exact z_sub [1, 2, 4, 0] rfl (w_X8_works_j59 C hQ  _ _ _ _ _ hm)
set_option maxRecDepth 100000 in
set_option maxHeartbeats 4000000 in
theorem w_X8_works_e {h : zH} {ad : Nat → Nat} {G : zG} (C : zC h ad zLM 7 G cX8_works RX8 wsX8_works 1 27) {n : Nat} {r : Int32} {s9 : zS} (hQ : zQ h ad zLM G false (.inl r) s9 (some .int)) {v1 : Int32} {v2 : Int32} (s : zS) (hm : m_X8_works n v1 v2 s = some (r, s9)) : zV h ad zLM 7 G s 0 [(0, .ref (ad 0)), (1, .int v1), (2, .int v2)] [] := by
  rw [m_X8_works] at hm
  refine z_aload_n C dX8_works_0 rfl 0 rfl ?_
  refine z_getr C kM0 vc8 eX8_works_uX8 0 (by decide) rfl eX8_works_f7 rfl dX8_works_1 ?_
  refine z_iload_n C dX8_works_4 rfl 1 rfl ?_
  obtain ⟨x23, i_x23, e_x23, hm⟩ := zRd_of hm
  refine z_iald C kM1 i_x23 e_x23 dX8_works_5 ?_
  refine z_istore_n (y := x23) (lv' := [(3, .int x23), (0, .ref (ad 0)), (1, .int v1), (2, .int v2)]) C dX8_works_6 rfl (by decide) rfl rfl ?_
  refine z_aload_n C dX8_works_7 rfl 1 rfl ?_
  refine z_iload_n C dX8_works_8 rfl 2 rfl ?_
  obtain ⟨x24, s25, q_s25, hm⟩ := zBd_of hm
  refine z_cV (vd := false) (Cn := RX8) (k := 0) C 1 [.int v1] [] (c_X8_usesFirst (zC_I C) (zC_st C)  q_s25) gX8_works_X8_usesFirst (by decide +kernel) kM0 vc8 rfl rfl dX8_works_9 rfl ⟨Nat.le_of_ble_eq_true rfl, Nat.le_of_ble_eq_true rfl⟩ rfl (Nat.le_of_ble_eq_true rfl) ?_
  refine z_if_eq (tgt := 31) C dX8_works_12 (by decide) (fun c26 => ?_) (fun c26 => ?_)
  · have hm := zIt hm c26
    refine z_iconst (v := (0 : Int32)) C dX8_works_31 (by decide) ?_
    exact z_sub [1, 2, 3, 0] rfl (w_X8_works_j32 C hQ  _ _ _ _ _ hm)
  · have hm := zIf hm c26
    refine z_aload_n C dX8_works_15 rfl 1 rfl ?_
    refine z_getr C kM0 vc8 eX8_works_uX8 14 (by decide) rfl eX8_works_f40 rfl dX8_works_16 ?_
    refine z_iload_n C dX8_works_19 rfl 3 rfl ?_
    refine z_aload_n C dX8_works_20 rfl 1 rfl ?_
    refine z_getr C kM0 vc8 eX8_works_uX8 1 (by decide) rfl eX8_works_f13 rfl dX8_works_21 ?_
    refine z_iload_n C dX8_works_24 rfl 2 rfl ?_
    obtain ⟨x27, i_x27, e_x27, hm⟩ := zRd_of hm
    refine z_iald C kM2 i_x27 e_x27 dX8_works_25 ?_
    refine z_iadd C dX8_works_26 ?_
    obtain ⟨x28, i_x28, e_x28, hm⟩ := zRd_of hm
    refine z_iald C kM11 i_x28 e_x28 dX8_works_27 ?_
    refine z_goto (tgt := 32) C dX8_works_28 (by decide) ?_
    exact z_sub [1, 2, 3, 0] rfl (w_X8_works_j32 C hQ  _ _ _ _ _ hm)
set_option maxRecDepth 100000 in
set_option maxHeartbeats 4000000 in
theorem c_X8_works {h : zH} {ad : Nat → Nat} (hI : zI ad zLM.length) (hst : h.1.stackTraces = false) {n : Nat} {v1 : Int32} {v2 : Int32} {s s9 : zS} {r : Int32} (hm : m_X8_works n v1 v2 s = some (r, s9)) : zMR h ad zLM false yX8_works wsX8_works 1 27 [.ref (ad 0), .int v1, .int v2] s (.inl r) s9 :=
  z_start (cc := cX8_works) (nL := 7) (ret := (some .int)) (own := RX8) (by decide +kernel) rfl rfl hI hst (Nat.le_of_ble_eq_true rfl) (fun G C hQ => w_X8_works_e C hQ _ hm)
set_option maxRecDepth 100000 in
theorem eX8_passes_uX8 : ∀ w ∈ wsX80, w ∈ wsX8_passes := by decide +kernel
set_option maxRecDepth 100000 in
theorem eX8_passes_f43 : Cond.fieldLink RX8 43 RX8 (TX8 15).2.1 (TX8 15).2.2.1 ∈ wsX8_passes := by decide +kernel
set_option maxRecDepth 100000 in
theorem eX8_passes_f40 : Cond.fieldLink RX8 40 RX8 (TX8 14).2.1 (TX8 14).2.2.1 ∈ wsX8_passes := by decide +kernel
set_option maxRecDepth 100000 in
theorem eX8_passes_f16 : Cond.fieldLink RX8 16 RX8 (TX8 2).2.1 (TX8 2).2.2.1 ∈ wsX8_passes := by decide +kernel
set_option maxRecDepth 100000 in
theorem eX8_passes_f13 : Cond.fieldLink RX8 13 RX8 (TX8 1).2.1 (TX8 1).2.2.1 ∈ wsX8_passes := by decide +kernel
set_option maxRecDepth 100000 in
set_option maxHeartbeats 4000000 in
theorem w_X8_passes_j78 {h : zH} {ad : Nat → Nat} {G : zG} (C : zC h ad zLM 5 G cX8_passes RX8 wsX8_passes 2 53) {n : Nat} {r : Int32} {s9 : zS} (hQ : zQ h ad zLM G true (.inl r) s9 none) {rec2 : Int32 → Int32 → zS → Option (Int32 × zS)} {rec10 : Int32 → Int32 → Int32 → zS → Option (Int32 × zS)} (hrec2 : ∀ (v1 : Int32) (v2 : Int32) (s : zS), rec2 v1 v2 s = some (r, s9) → zV h ad zLM 5 G s 2 [(0, .ref (ad 0)), (1, .int v1), (2, .int v2)] []) (hrec10 : ∀ (v1 : Int32) (v2 : Int32) (v3 : Int32) (s : zS), rec10 v1 v2 v3 s = some (r, s9) → zV h ad zLM 5 G s 10 [(0, .ref (ad 0)), (1, .int v1), (2, .int v2), (3, .int v3)] []) (v1 : Int32) (v2 : Int32) (v3 : Int32) (t0 : Int32) (t1 : Int32) (s : zS) (hm : m_X8_passes_j78 rec2 rec10 n v1 v2 v3 t0 t1 s = some (r, s9)) : zV h ad zLM 5 G s 78 [(0, .ref (ad 0)), (1, .int v1), (2, .int v2), (3, .int v3)] [.int t1, .int t0] := by
  rw [m_X8_passes_j78] at hm
  refine z_iand C dX8_passes_78 ?_
  obtain ⟨x1, e_x1, hm⟩ := zLt_of hm
  refine z_istore (y := x1) (lv' := [(4, .int x1), (0, .ref (ad 0)), (1, .int v1), (2, .int v2), (3, .int v3)]) C dX8_passes_79 (by decide) e_x1 rfl ?_
  refine z_iload C dX8_passes_81 0 rfl ?_
  refine z_if_eq (tgt := 120) C dX8_passes_83 (by decide) (fun c2 => ?_) (fun c2 => ?_)
  · have hm := zIt hm c2
    obtain ⟨x3, e_x3, hm⟩ := zLt_of hm
    refine z_iinc (j := 4) (v := x3) (d := (1 : Int32)) (lv' := [(3, .int x3), (4, .int x1), (0, .ref (ad 0)), (1, .int v1), (2, .int v2)]) C dX8_passes_120 rfl (by decide) e_x3 (by decide) rfl ?_
    refine z_goto (tgt := 10) C dX8_passes_123 (by decide) ?_
    exact z_sub [2, 3, 4, 0] rfl (hrec10 _ _ _ _ hm)
  · have hm := zIf hm c2
    refine z_aload_n C dX8_passes_86 rfl 1 rfl ?_
    refine z_getr C kM0 vc8 eX8_passes_uX8 15 (by decide) rfl eX8_passes_f43 rfl dX8_passes_87 ?_
    refine z_iload_n C dX8_passes_90 rfl 2 rfl ?_
    refine z_iload_n C dX8_passes_91 rfl 4 rfl ?_
    refine z_iadd C dX8_passes_92 ?_
    obtain ⟨x4, i_x4, e_x4, hm⟩ := zRd_of hm
    refine z_zald C kM12 i_x4 e_x4 dX8_passes_93 ?_
    refine z_if_ne (tgt := 120) C dX8_passes_94 (by decide) (fun c5 => ?_) (fun c5 => ?_)
    · have hm := zIf hm c5
      obtain ⟨x6, e_x6, hm⟩ := zLt_of hm
      refine z_iinc (j := 4) (v := x6) (d := (1 : Int32)) (lv' := [(3, .int x6), (4, .int x1), (0, .ref (ad 0)), (1, .int v1), (2, .int v2)]) C dX8_passes_120 rfl (by decide) e_x6 (by decide) rfl ?_
      refine z_goto (tgt := 10) C dX8_passes_123 (by decide) ?_
      exact z_sub [2, 3, 4, 0] rfl (hrec10 _ _ _ _ hm)
    · have hm := zIt hm c5
      refine z_aload_n C dX8_passes_97 rfl 1 rfl ?_
      refine z_getr C kM0 vc8 eX8_passes_uX8 14 (by decide) rfl eX8_passes_f40 rfl dX8_passes_98 ?_
      refine z_iload_n C dX8_passes_101 rfl 2 rfl ?_
      refine z_iload_n C dX8_passes_102 rfl 4 rfl ?_
      refine z_iadd C dX8_passes_103 ?_
      refine z_aload_n C dX8_passes_104 rfl 1 rfl ?_
      refine z_iload_n C dX8_passes_105 rfl 4 rfl ?_
      refine z_iload_n C dX8_passes_106 rfl 2 rfl ?_
      obtain ⟨x7, s8, q_s8, hm⟩ := zBd_of hm
      refine z_cV (vd := false) (Cn := RX8) (k := 0) C 2 [.int v3, .int v1] [.int (v1 + v3), .ref (ad 11)] (c_X8_works (zC_I C) (zC_st C)  q_s8) gX8_passes_X8_works (by decide +kernel) kM0 vc8 rfl rfl dX8_passes_107 rfl ⟨Nat.le_of_ble_eq_true rfl, Nat.le_of_ble_eq_true rfl⟩ rfl (Nat.le_of_ble_eq_true rfl) ?_
      obtain ⟨s9, i_s9, e_s9, hm⟩ := zWr_of hm
      refine z_iast C kM11 i_s9 e_s9 dX8_passes_110 ?_
      refine z_aload_n C dX8_passes_111 rfl 1 rfl ?_
      refine z_getr C kM0 vc8 eX8_passes_uX8 15 (by decide) rfl eX8_passes_f43 rfl dX8_passes_112 ?_
      refine z_iload_n C dX8_passes_115 rfl 2 rfl ?_
      refine z_iload_n C dX8_passes_116 rfl 4 rfl ?_
      refine z_iadd C dX8_passes_117 ?_
      refine z_iconst (v := (1 : Int32)) C dX8_passes_118 (by decide) ?_
      obtain ⟨s10, i_s10, e_s10, hm⟩ := zWr_of hm
      refine z_zast C kM12 i_s10 e_s10 dX8_passes_119 ?_
      obtain ⟨x11, e_x11, hm⟩ := zLt_of hm
      refine z_iinc (j := 4) (v := x11) (d := (1 : Int32)) (lv' := [(3, .int x11), (4, .int x1), (0, .ref (ad 0)), (1, .int v1), (2, .int v2)]) C dX8_passes_120 rfl (by decide) e_x11 (by decide) rfl ?_
      refine z_goto (tgt := 10) C dX8_passes_123 (by decide) ?_
      exact z_sub [2, 3, 4, 0] rfl (hrec10 _ _ _ _ hm)
set_option maxRecDepth 100000 in
set_option maxHeartbeats 4000000 in
theorem w_X8_passes_j45 {h : zH} {ad : Nat → Nat} {G : zG} (C : zC h ad zLM 5 G cX8_passes RX8 wsX8_passes 2 53) {n : Nat} {r : Int32} {s9 : zS} (hQ : zQ h ad zLM G true (.inl r) s9 none) {rec2 : Int32 → Int32 → zS → Option (Int32 × zS)} {rec10 : Int32 → Int32 → Int32 → zS → Option (Int32 × zS)} (hrec2 : ∀ (v1 : Int32) (v2 : Int32) (s : zS), rec2 v1 v2 s = some (r, s9) → zV h ad zLM 5 G s 2 [(0, .ref (ad 0)), (1, .int v1), (2, .int v2)] []) (hrec10 : ∀ (v1 : Int32) (v2 : Int32) (v3 : Int32) (s : zS), rec10 v1 v2 v3 s = some (r, s9) → zV h ad zLM 5 G s 10 [(0, .ref (ad 0)), (1, .int v1), (2, .int v2), (3, .int v3)] []) (v1 : Int32) (v2 : Int32) (v3 : Int32) (t0 : Int32) (s : zS) (hm : m_X8_passes_j45 rec2 rec10 n v1 v2 v3 t0 s = some (r, s9)) : zV h ad zLM 5 G s 45 [(0, .ref (ad 0)), (1, .int v1), (2, .int v2), (3, .int v3)] [.int t0] := by
  rw [m_X8_passes_j45] at hm
  refine z_istore (y := t0) (lv' := [(4, .int t0), (0, .ref (ad 0)), (1, .int v1), (2, .int v2), (3, .int v3)]) C dX8_passes_45 (by decide) rfl rfl ?_
  refine z_iload C dX8_passes_47 0 rfl ?_
  refine z_aload_n C dX8_passes_49 rfl 1 rfl ?_
  refine z_iload_n C dX8_passes_50 rfl 4 rfl ?_
  obtain ⟨x12, s13, q_s13, hm⟩ := zBd_of hm
  refine z_cV (vd := false) (Cn := RX8) (k := 0) C 1 [.int v3] [.int t0] (c_X8_usesSecond (zC_I C) (zC_st C)  q_s13) gX8_passes_X8_usesSecond (by decide +kernel) kM0 vc8 rfl rfl dX8_passes_51 rfl ⟨Nat.le_of_ble_eq_true rfl, Nat.le_of_ble_eq_true rfl⟩ rfl (Nat.le_of_ble_eq_true rfl) ?_
  refine z_if_eq (tgt := 73) C dX8_passes_54 (by decide) (fun c14 => ?_) (fun c14 => ?_)
  · have hm := zIt hm c14
    refine z_iconst (v := (1 : Int32)) C dX8_passes_73 (by decide) ?_
    refine z_goto (tgt := 78) C dX8_passes_74 (by decide) ?_
    exact z_sub [1, 2, 3, 4] rfl (w_X8_passes_j78 C hQ hrec2 hrec10 _ _ _ _ _ _ hm)
  · have hm := zIf hm c14
    refine z_aload_n C dX8_passes_57 rfl 1 rfl ?_
    refine z_getr C kM0 vc8 eX8_passes_uX8 15 (by decide) rfl eX8_passes_f43 rfl dX8_passes_58 ?_
    refine z_iload_n C dX8_passes_61 rfl 2 rfl ?_
    refine z_aload_n C dX8_passes_62 rfl 1 rfl ?_
    refine z_getr C kM0 vc8 eX8_passes_uX8 2 (by decide) rfl eX8_passes_f16 rfl dX8_passes_63 ?_
    refine z_iload_n C dX8_passes_66 rfl 4 rfl ?_
    obtain ⟨x15, i_x15, e_x15, hm⟩ := zRd_of hm
    refine z_iald C kM3 i_x15 e_x15 dX8_passes_67 ?_
    refine z_iadd C dX8_passes_68 ?_
    obtain ⟨x16, i_x16, e_x16, hm⟩ := zRd_of hm
    refine z_zald C kM12 i_x16 e_x16 dX8_passes_69 ?_
    refine z_if_eq (tgt := 77) C dX8_passes_70 (by decide) (fun c17 => ?_) (fun c17 => ?_)
    · have hm := zIt hm c17
      refine z_iconst (v := (0 : Int32)) C dX8_passes_77 (by decide) ?_
      exact z_sub [1, 2, 3, 4] rfl (w_X8_passes_j78 C hQ hrec2 hrec10 _ _ _ _ _ _ hm)
    · have hm := zIf hm c17
      refine z_iconst (v := (1 : Int32)) C dX8_passes_73 (by decide) ?_
      refine z_goto (tgt := 78) C dX8_passes_74 (by decide) ?_
      exact z_sub [1, 2, 3, 4] rfl (w_X8_passes_j78 C hQ hrec2 hrec10 _ _ _ _ _ _ hm)
set_option maxRecDepth 100000 in
set_option maxHeartbeats 4000000 in
theorem w_X8_passes_j10 {h : zH} {ad : Nat → Nat} {G : zG} (C : zC h ad zLM 5 G cX8_passes RX8 wsX8_passes 2 53) {n : Nat} {r : Int32} {s9 : zS} (hQ : zQ h ad zLM G true (.inl r) s9 none) {rec2 : Int32 → Int32 → zS → Option (Int32 × zS)} (hrec2 : ∀ (v1 : Int32) (v2 : Int32) (s : zS), rec2 v1 v2 s = some (r, s9) → zV h ad zLM 5 G s 2 [(0, .ref (ad 0)), (1, .int v1), (2, .int v2)] []) : ∀ (f : Nat) (v1 : Int32) (v2 : Int32) (v3 : Int32) (s : zS), m_X8_passes_j10 rec2 n f v1 v2 v3 s = some (r, s9) → zV h ad zLM 5 G s 10 [(0, .ref (ad 0)), (1, .int v1), (2, .int v2), (3, .int v3)] [] := by
  intro f
  induction f with
  | zero => intro v1 v2 v3 s hm; simp [m_X8_passes_j10] at hm
  | succ f ih =>
    intro v1 v2 v3 s hm
    rw [m_X8_passes_j10] at hm
    refine z_iload_n C dX8_passes_10 rfl 3 rfl ?_
    refine z_bipush (v := (16 : Int32)) C dX8_passes_11 (by decide) ?_
    refine z_icmp_ge (tgt := 126) C dX8_passes_13 (by decide) (fun c18 => ?_) (fun c18 => ?_)
    · have hm := zIt hm c18
      obtain ⟨x19, e_x19, hm⟩ := zLt_of hm
      refine z_iinc (j := 2) (v := x19) (d := (1 : Int32)) (lv' := [(2, .int x19), (0, .ref (ad 0)), (1, .int v1), (3, .int v3)]) C dX8_passes_126 rfl (by decide) e_x19 (by decide) rfl ?_
      refine z_goto (tgt := 2) C dX8_passes_129 (by decide) ?_
      exact z_sub [1, 2, 0] rfl (hrec2 _ _ _ hm)
    · have hm := zIf hm c18
      refine z_aload_n C dX8_passes_16 rfl 0 rfl ?_
      refine z_iload_n C dX8_passes_17 rfl 3 rfl ?_
      obtain ⟨x20, s21, q_s21, hm⟩ := zBd_of hm
      refine z_cV (vd := false) (Cn := RX8) (k := 0) C 1 [.int v3] [] (c_X8_usesFirst (zC_I C) (zC_st C)  q_s21) gX8_passes_X8_usesFirst (by decide +kernel) kM0 vc8 rfl rfl dX8_passes_18 rfl ⟨Nat.le_of_ble_eq_true rfl, Nat.le_of_ble_eq_true rfl⟩ rfl (Nat.le_of_ble_eq_true rfl) ?_
      refine z_if_eq (tgt := 40) C dX8_passes_21 (by decide) (fun c22 => ?_) (fun c22 => ?_)
      · have hm := zIt hm c22
        refine z_iconst (v := (1 : Int32)) C dX8_passes_40 (by decide) ?_
        refine z_goto (tgt := 45) C dX8_passes_41 (by decide) ?_
        exact z_sub [0, 1, 2, 3] rfl (w_X8_passes_j45 C hQ hrec2 ih _ _ _ _ _ hm)
      · have hm := zIf hm c22
        refine z_aload_n C dX8_passes_24 rfl 0 rfl ?_
        refine z_getr C kM0 vc8 eX8_passes_uX8 15 (by decide) rfl eX8_passes_f43 rfl dX8_passes_25 ?_
        refine z_iload_n C dX8_passes_28 rfl 1 rfl ?_
        refine z_aload_n C dX8_passes_29 rfl 0 rfl ?_
        refine z_getr C kM0 vc8 eX8_passes_uX8 1 (by decide) rfl eX8_passes_f13 rfl dX8_passes_30 ?_
        refine z_iload_n C dX8_passes_33 rfl 3 rfl ?_
        obtain ⟨x23, i_x23, e_x23, hm⟩ := zRd_of hm
        refine z_iald C kM2 i_x23 e_x23 dX8_passes_34 ?_
        refine z_iadd C dX8_passes_35 ?_
        obtain ⟨x24, i_x24, e_x24, hm⟩ := zRd_of hm
        refine z_zald C kM12 i_x24 e_x24 dX8_passes_36 ?_
        refine z_if_eq (tgt := 44) C dX8_passes_37 (by decide) (fun c25 => ?_) (fun c25 => ?_)
        · have hm := zIt hm c25
          refine z_iconst (v := (0 : Int32)) C dX8_passes_44 (by decide) ?_
          exact z_sub [0, 1, 2, 3] rfl (w_X8_passes_j45 C hQ hrec2 ih _ _ _ _ _ hm)
        · have hm := zIf hm c25
          refine z_iconst (v := (1 : Int32)) C dX8_passes_40 (by decide) ?_
          refine z_goto (tgt := 45) C dX8_passes_41 (by decide) ?_
          exact z_sub [0, 1, 2, 3] rfl (w_X8_passes_j45 C hQ hrec2 ih _ _ _ _ _ hm)
set_option maxRecDepth 100000 in
set_option maxHeartbeats 4000000 in
theorem w_X8_passes_j2 {h : zH} {ad : Nat → Nat} {G : zG} (C : zC h ad zLM 5 G cX8_passes RX8 wsX8_passes 2 53) {n : Nat} {r : Int32} {s9 : zS} (hQ : zQ h ad zLM G true (.inl r) s9 none) : ∀ (f : Nat) (v1 : Int32) (v2 : Int32) (s : zS), m_X8_passes_j2 n f v1 v2 s = some (r, s9) → zV h ad zLM 5 G s 2 [(0, .ref (ad 0)), (1, .int v1), (2, .int v2)] [] := by
  intro f
  induction f with
  | zero => intro v1 v2 s hm; simp [m_X8_passes_j2] at hm
  | succ f ih =>
    intro v1 v2 s hm
    rw [m_X8_passes_j2] at hm
    refine z_iload_n C dX8_passes_2 rfl 2 rfl ?_
    refine z_bipush (v := (16 : Int32)) C dX8_passes_3 (by decide) ?_
    refine z_icmp_ge (tgt := 132) C dX8_passes_5 (by decide) (fun c26 => ?_) (fun c26 => ?_)
    · have hm := zIt hm c26
      exact z_vret0 C hQ (zRt_of hm).1 (zRt_of hm).2 dX8_passes_132
    · have hm := zIf hm c26
      refine z_iconst (v := (0 : Int32)) C dX8_passes_8 (by decide) ?_
      refine z_istore_n (y := (0 : Int32)) (lv' := [(3, .int (0 : Int32)), (0, .ref (ad 0)), (1, .int v1), (2, .int v2)]) C dX8_passes_9 rfl (by decide) rfl rfl ?_
      exact z_sub [1, 2, 3, 0] rfl (w_X8_passes_j10 C hQ ih _ _ _ _ _ hm)
set_option maxRecDepth 100000 in
set_option maxHeartbeats 4000000 in
theorem w_X8_passes_e {h : zH} {ad : Nat → Nat} {G : zG} (C : zC h ad zLM 5 G cX8_passes RX8 wsX8_passes 2 53) {n : Nat} {r : Int32} {s9 : zS} (hQ : zQ h ad zLM G true (.inl r) s9 none) {v1 : Int32} (s : zS) (hm : m_X8_passes n v1 s = some (r, s9)) : zV h ad zLM 5 G s 0 [(0, .ref (ad 0)), (1, .int v1)] [] := by
  rw [m_X8_passes] at hm
  refine z_iconst (v := (0 : Int32)) C dX8_passes_0 (by decide) ?_
  refine z_istore_n (y := (0 : Int32)) (lv' := [(2, .int (0 : Int32)), (0, .ref (ad 0)), (1, .int v1)]) C dX8_passes_1 rfl (by decide) rfl rfl ?_
  exact z_sub [1, 2, 0] rfl (w_X8_passes_j2 C hQ  _ _ _ _ hm)
set_option maxRecDepth 100000 in
set_option maxHeartbeats 4000000 in
theorem c_X8_passes {h : zH} {ad : Nat → Nat} (hI : zI ad zLM.length) (hst : h.1.stackTraces = false) {n : Nat} {v1 : Int32} {s s9 : zS} {r : Int32} (hm : m_X8_passes n v1 s = some (r, s9)) : zMR h ad zLM true yX8_passes wsX8_passes 2 53 [.ref (ad 0), .int v1] s (.inl r) s9 :=
  z_start (cc := cX8_passes) (nL := 5) (ret := none) (own := RX8) (by decide +kernel) rfl rfl hI hst (Nat.le_of_ble_eq_true rfl) (fun G C hQ => w_X8_passes_e C hQ _ hm)
set_option maxRecDepth 100000 in
theorem eX8_tries_uX8 : ∀ w ∈ wsX80, w ∈ wsX8_tries := by decide +kernel
set_option maxRecDepth 100000 in
theorem eX8_tries_f40 : Cond.fieldLink RX8 40 RX8 (TX8 14).2.1 (TX8 14).2.2.1 ∈ wsX8_tries := by decide +kernel
set_option maxRecDepth 100000 in
theorem eX8_tries_f43 : Cond.fieldLink RX8 43 RX8 (TX8 15).2.1 (TX8 15).2.2.1 ∈ wsX8_tries := by decide +kernel
set_option maxRecDepth 100000 in
theorem eX8_tries_f16 : Cond.fieldLink RX8 16 RX8 (TX8 2).2.1 (TX8 2).2.2.1 ∈ wsX8_tries := by decide +kernel
set_option maxRecDepth 100000 in
set_option maxHeartbeats 4000000 in
theorem w_X8_tries_j2 {h : zH} {ad : Nat → Nat} {G : zG} (C : zC h ad zLM 4 G cX8_tries RX8 wsX8_tries 3 77) {n : Nat} {r : Int32} {s9 : zS} (hQ : zQ h ad zLM G false (.inl r) s9 (some .boolean)) : ∀ (f : Nat) (v1 : Int32) (v2 : Int32) (v3 : Int32) (s : zS), m_X8_tries_j2 n f v1 v2 v3 s = some (r, s9) → zV h ad zLM 4 G s 2 [(0, .ref (ad 0)), (1, .int v1), (2, .int v2), (3, .int v3)] [] := by
  intro f
  induction f with
  | zero => intro v1 v2 v3 s hm; simp [m_X8_tries_j2] at hm
  | succ f ih =>
    intro v1 v2 v3 s hm
    rw [m_X8_tries_j2] at hm
    refine z_iload_n C dX8_tries_2 rfl 3 rfl ?_
    refine z_bipush (v := (16 : Int32)) C dX8_tries_3 (by decide) ?_
    refine z_icmp_ge (tgt := 44) C dX8_tries_5 (by decide) (fun c1 => ?_) (fun c1 => ?_)
    · have hm := zIt hm c1
      refine z_aload_n C dX8_tries_44 rfl 0 rfl ?_
      refine z_getr C kM0 vc8 eX8_tries_uX8 14 (by decide) rfl eX8_tries_f40 rfl dX8_tries_45 ?_
      refine z_bipush (v := (16 : Int32)) C dX8_tries_48 (by decide) ?_
      refine z_iload_n C dX8_tries_50 rfl 1 rfl ?_
      refine z_iadd C dX8_tries_51 ?_
      refine z_iload_n C dX8_tries_52 rfl 2 rfl ?_
      obtain ⟨s2, i_s2, e_s2, hm⟩ := zWr_of hm
      refine z_iast C kM11 i_s2 e_s2 dX8_tries_53 ?_
      refine z_aload_n C dX8_tries_54 rfl 0 rfl ?_
      refine z_getr C kM0 vc8 eX8_tries_uX8 15 (by decide) rfl eX8_tries_f43 rfl dX8_tries_55 ?_
      refine z_bipush (v := (16 : Int32)) C dX8_tries_58 (by decide) ?_
      refine z_iload_n C dX8_tries_60 rfl 1 rfl ?_
      refine z_iadd C dX8_tries_61 ?_
      refine z_iconst (v := (1 : Int32)) C dX8_tries_62 (by decide) ?_
      obtain ⟨s3, i_s3, e_s3, hm⟩ := zWr_of hm
      refine z_zast C kM12 i_s3 e_s3 dX8_tries_63 ?_
      refine z_aload_n C dX8_tries_64 rfl 0 rfl ?_
      refine z_bipush (v := (16 : Int32)) C dX8_tries_65 (by decide) ?_
      obtain ⟨x4, s5, q_s5, hm⟩ := zBd_of hm
      refine z_cV (vd := true) (Cn := RX8) (k := 0) C 1 [.int (16 : Int32)] [] (c_X8_passes (zC_I C) (zC_st C)  q_s5) gX8_tries_X8_passes (by decide +kernel) kM0 vc8 rfl rfl dX8_tries_67 rfl ⟨Nat.le_of_ble_eq_true rfl, Nat.le_of_ble_eq_true rfl⟩ rfl (Nat.le_of_ble_eq_true rfl) ?_
      refine z_aload_n C dX8_tries_70 rfl 0 rfl ?_
      refine z_getr C kM0 vc8 eX8_tries_uX8 15 (by decide) rfl eX8_tries_f43 rfl dX8_tries_71 ?_
      refine z_bipush (v := (16 : Int32)) C dX8_tries_74 (by decide) ?_
      refine z_aload_n C dX8_tries_76 rfl 0 rfl ?_
      refine z_getr C kM0 vc8 eX8_tries_uX8 2 (by decide) rfl eX8_tries_f16 rfl dX8_tries_77 ?_
      refine z_iload_n C dX8_tries_80 rfl 1 rfl ?_
      obtain ⟨x6, i_x6, e_x6, hm⟩ := zRd_of hm
      refine z_iald C kM3 i_x6 e_x6 dX8_tries_81 ?_
      refine z_iadd C dX8_tries_82 ?_
      obtain ⟨x7, i_x7, e_x7, hm⟩ := zRd_of hm
      refine z_zald C kM12 i_x7 e_x7 dX8_tries_83 ?_
      obtain ⟨g8, hm⟩ := zGd_of hm
      exact z_zret0 C hQ (zRt_of hm).1 (zRt_of hm).2 g8 dX8_tries_84
    · have hm := zIf hm c1
      refine z_aload_n C dX8_tries_8 rfl 0 rfl ?_
      refine z_getr C kM0 vc8 eX8_tries_uX8 14 (by decide) rfl eX8_tries_f40 rfl dX8_tries_9 ?_
      refine z_bipush (v := (16 : Int32)) C dX8_tries_12 (by decide) ?_
      refine z_iload_n C dX8_tries_14 rfl 3 rfl ?_
      refine z_iadd C dX8_tries_15 ?_
      refine z_aload_n C dX8_tries_16 rfl 0 rfl ?_
      refine z_getr C kM0 vc8 eX8_tries_uX8 14 (by decide) rfl eX8_tries_f40 rfl dX8_tries_17 ?_
      refine z_iload_n C dX8_tries_20 rfl 3 rfl ?_
      obtain ⟨x9, i_x9, e_x9, hm⟩ := zRd_of hm
      refine z_iald C kM11 i_x9 e_x9 dX8_tries_21 ?_
      obtain ⟨s10, i_s10, e_s10, hm⟩ := zWr_of hm
      refine z_iast C kM11 i_s10 e_s10 dX8_tries_22 ?_
      refine z_aload_n C dX8_tries_23 rfl 0 rfl ?_
      refine z_getr C kM0 vc8 eX8_tries_uX8 15 (by decide) rfl eX8_tries_f43 rfl dX8_tries_24 ?_
      refine z_bipush (v := (16 : Int32)) C dX8_tries_27 (by decide) ?_
      refine z_iload_n C dX8_tries_29 rfl 3 rfl ?_
      refine z_iadd C dX8_tries_30 ?_
      refine z_aload_n C dX8_tries_31 rfl 0 rfl ?_
      refine z_getr C kM0 vc8 eX8_tries_uX8 15 (by decide) rfl eX8_tries_f43 rfl dX8_tries_32 ?_
      refine z_iload_n C dX8_tries_35 rfl 3 rfl ?_
      obtain ⟨x11, i_x11, e_x11, hm⟩ := zRd_of hm
      refine z_zald C kM12 i_x11 e_x11 dX8_tries_36 ?_
      obtain ⟨s12, i_s12, e_s12, hm⟩ := zWr_of hm
      refine z_zast C kM12 i_s12 e_s12 dX8_tries_37 ?_
      obtain ⟨x13, e_x13, hm⟩ := zLt_of hm
      refine z_iinc (j := 3) (v := x13) (d := (1 : Int32)) (lv' := [(3, .int x13), (0, .ref (ad 0)), (1, .int v1), (2, .int v2)]) C dX8_tries_38 rfl (by decide) e_x13 (by decide) rfl ?_
      refine z_goto (tgt := 2) C dX8_tries_41 (by decide) ?_
      exact z_sub [1, 2, 3, 0] rfl (ih _ _ _ _ hm)
set_option maxRecDepth 100000 in
set_option maxHeartbeats 4000000 in
theorem w_X8_tries_e {h : zH} {ad : Nat → Nat} {G : zG} (C : zC h ad zLM 4 G cX8_tries RX8 wsX8_tries 3 77) {n : Nat} {r : Int32} {s9 : zS} (hQ : zQ h ad zLM G false (.inl r) s9 (some .boolean)) {v1 : Int32} {v2 : Int32} (s : zS) (hm : m_X8_tries n v1 v2 s = some (r, s9)) : zV h ad zLM 4 G s 0 [(0, .ref (ad 0)), (1, .int v1), (2, .int v2)] [] := by
  rw [m_X8_tries] at hm
  refine z_iconst (v := (0 : Int32)) C dX8_tries_0 (by decide) ?_
  refine z_istore_n (y := (0 : Int32)) (lv' := [(3, .int (0 : Int32)), (0, .ref (ad 0)), (1, .int v1), (2, .int v2)]) C dX8_tries_1 rfl (by decide) rfl rfl ?_
  exact z_sub [1, 2, 3, 0] rfl (w_X8_tries_j2 C hQ  _ _ _ _ _ hm)
set_option maxRecDepth 100000 in
set_option maxHeartbeats 4000000 in
theorem c_X8_tries {h : zH} {ad : Nat → Nat} (hI : zI ad zLM.length) (hst : h.1.stackTraces = false) {n : Nat} {v1 : Int32} {v2 : Int32} {s s9 : zS} {r : Int32} (hm : m_X8_tries n v1 v2 s = some (r, s9)) : zMR h ad zLM false yX8_tries wsX8_tries 3 77 [.ref (ad 0), .int v1, .int v2] s (.inl r) s9 :=
  z_start (cc := cX8_tries) (nL := 4) (ret := (some .boolean)) (own := RX8) (by decide +kernel) rfl rfl hI hst (Nat.le_of_ble_eq_true rfl) (fun G C hQ => w_X8_tries_e C hQ _ hm)
set_option maxRecDepth 100000 in
theorem eX8_halves_uX8 : ∀ w ∈ wsX80, w ∈ wsX8_halves := by decide +kernel
set_option maxRecDepth 100000 in
theorem eX8_halves_f40 : Cond.fieldLink RX8 40 RX8 (TX8 14).2.1 (TX8 14).2.2.1 ∈ wsX8_halves := by decide +kernel
set_option maxRecDepth 100000 in
theorem eX8_halves_f43 : Cond.fieldLink RX8 43 RX8 (TX8 15).2.1 (TX8 15).2.2.1 ∈ wsX8_halves := by decide +kernel
set_option maxRecDepth 100000 in
theorem eX8_halves_f16 : Cond.fieldLink RX8 16 RX8 (TX8 2).2.1 (TX8 2).2.2.1 ∈ wsX8_halves := by decide +kernel
set_option maxRecDepth 100000 in
theorem eX8_halves_f13 : Cond.fieldLink RX8 13 RX8 (TX8 1).2.1 (TX8 1).2.2.1 ∈ wsX8_halves := by decide +kernel
set_option maxRecDepth 100000 in
set_option maxHeartbeats 4000000 in
theorem w_X8_halves_j14 {h : zH} {ad : Nat → Nat} {G : zG} (C : zC h ad zLM 5 G cX8_halves RX8 wsX8_halves 4 100) {n : Nat} {r : Int32} {s9 : zS} (hQ : zQ h ad zLM G true (.inl r) s9 none) : ∀ (f : Nat) (v1 : Int32) (v2 : Int32) (v3 : Int32) (s : zS), m_X8_halves_j14 n f v1 v2 v3 s = some (r, s9) → zV h ad zLM 5 G s 14 [(0, .ref (ad 0)), (1, .int v1), (2, .int v2), (3, .int v3)] [] := by
  intro f
  induction f with
  | zero => intro v1 v2 v3 s hm; simp [m_X8_halves_j14] at hm
  | succ f ih =>
    intro v1 v2 v3 s hm
    rw [m_X8_halves_j14] at hm
    refine z_iload_n C dX8_halves_14 rfl 2 rfl ?_
    refine z_iload_n C dX8_halves_15 rfl 3 rfl ?_
    refine z_icmp_ge (tgt := 69) C dX8_halves_16 (by decide) (fun c1 => ?_) (fun c1 => ?_)
    · have hm := zIt hm c1
      refine z_aload_n C dX8_halves_69 rfl 0 rfl ?_
      refine z_getr C kM0 vc8 eX8_halves_uX8 14 (by decide) rfl eX8_halves_f40 rfl dX8_halves_70 ?_
      refine z_iload_n C dX8_halves_73 rfl 1 rfl ?_
      refine z_iload_n C dX8_halves_74 rfl 2 rfl ?_
      obtain ⟨s2, i_s2, e_s2, hm⟩ := zWr_of hm
      refine z_iast C kM11 i_s2 e_s2 dX8_halves_75 ?_
      refine z_aload_n C dX8_halves_76 rfl 0 rfl ?_
      refine z_getr C kM0 vc8 eX8_halves_uX8 15 (by decide) rfl eX8_halves_f43 rfl dX8_halves_77 ?_
      refine z_iload_n C dX8_halves_80 rfl 1 rfl ?_
      refine z_iconst (v := (1 : Int32)) C dX8_halves_81 (by decide) ?_
      obtain ⟨s3, i_s3, e_s3, hm⟩ := zWr_of hm
      refine z_zast C kM12 i_s3 e_s3 dX8_halves_82 ?_
      exact z_vret0 C hQ (zRt_of hm).1 (zRt_of hm).2 dX8_halves_83
    · have hm := zIf hm c1
      refine z_iload_n C dX8_halves_19 rfl 3 rfl ?_
      refine z_iload_n C dX8_halves_20 rfl 3 rfl ?_
      refine z_iload_n C dX8_halves_21 rfl 2 rfl ?_
      refine z_isub C dX8_halves_22 ?_
      refine z_iconst (v := (2 : Int32)) C dX8_halves_23 (by decide) ?_
      refine z_idiv C dX8_halves_24 (by decide) ?_
      refine z_isub C dX8_halves_25 ?_
      obtain ⟨x4, e_x4, hm⟩ := zLt_of hm
      refine z_istore (y := x4) (lv' := [(4, .int x4), (0, .ref (ad 0)), (1, .int v1), (2, .int v2), (3, .int v3)]) C dX8_halves_26 (by decide) e_x4 rfl ?_
      refine z_aload_n C dX8_halves_28 rfl 1 rfl ?_
      refine z_iload_n C dX8_halves_29 rfl 2 rfl ?_
      refine z_iload C dX8_halves_30 0 rfl ?_
      obtain ⟨x5, s6, q_s6, hm⟩ := zBd_of hm
      refine z_cV (vd := false) (Cn := RX8) (k := 0) C 2 [.int v1, .int x4] [] (c_X8_tries (zC_I C) (zC_st C)  q_s6) gX8_halves_X8_tries (by decide +kernel) kM0 vc8 rfl rfl dX8_halves_32 rfl ⟨Nat.le_of_ble_eq_true rfl, Nat.le_of_ble_eq_true rfl⟩ rfl (Nat.le_of_ble_eq_true rfl) ?_
      refine z_pop C dX8_halves_35 rfl ?_
      refine z_iload C dX8_halves_36 0 rfl ?_
      refine z_aload_n C dX8_halves_38 rfl 1 rfl ?_
      refine z_getr C kM0 vc8 eX8_halves_uX8 14 (by decide) rfl eX8_halves_f40 rfl dX8_halves_39 ?_
      refine z_bipush (v := (16 : Int32)) C dX8_halves_42 (by decide) ?_
      refine z_aload_n C dX8_halves_44 rfl 1 rfl ?_
      refine z_getr C kM0 vc8 eX8_halves_uX8 2 (by decide) rfl eX8_halves_f16 rfl dX8_halves_45 ?_
      refine z_iload_n C dX8_halves_48 rfl 2 rfl ?_
      obtain ⟨x7, i_x7, e_x7, hm⟩ := zRd_of hm
      refine z_iald C kM3 i_x7 e_x7 dX8_halves_49 ?_
      refine z_iadd C dX8_halves_50 ?_
      obtain ⟨x8, i_x8, e_x8, hm⟩ := zRd_of hm
      refine z_iald C kM11 i_x8 e_x8 dX8_halves_51 ?_
      refine z_icmp_gt (tgt := 61) C dX8_halves_52 (by decide) (fun c9 => ?_) (fun c9 => ?_)
      · have hm := zIt hm c9
        refine z_iload C dX8_halves_61 0 rfl ?_
        refine z_iconst (v := (1 : Int32)) C dX8_halves_63 (by decide) ?_
        refine z_isub C dX8_halves_64 ?_
        obtain ⟨x10, e_x10, hm⟩ := zLt_of hm
        refine z_istore_n (y := x10) (lv' := [(3, .int x10), (4, .int x4), (0, .ref (ad 0)), (1, .int v1), (2, .int v2)]) C dX8_halves_65 rfl (by decide) e_x10 rfl ?_
        refine z_goto (tgt := 14) C dX8_halves_66 (by decide) ?_
        exact z_sub [2, 3, 4, 0] rfl (ih _ _ _ _ hm)
      · have hm := zIf hm c9
        refine z_iload C dX8_halves_55 0 rfl ?_
        refine z_istore_n (y := x4) (lv' := [(2, .int x4), (4, .int x4), (0, .ref (ad 0)), (1, .int v1), (3, .int v3)]) C dX8_halves_57 rfl (by decide) rfl rfl ?_
        refine z_goto (tgt := 66) C dX8_halves_58 (by decide) ?_
        refine z_goto (tgt := 14) C dX8_halves_66 (by decide) ?_
        exact z_sub [2, 3, 0, 4] rfl (ih _ _ _ _ hm)
set_option maxRecDepth 100000 in
set_option maxHeartbeats 4000000 in
theorem w_X8_halves_e {h : zH} {ad : Nat → Nat} {G : zG} (C : zC h ad zLM 5 G cX8_halves RX8 wsX8_halves 4 100) {n : Nat} {r : Int32} {s9 : zS} (hQ : zQ h ad zLM G true (.inl r) s9 none) {v1 : Int32} (s : zS) (hm : m_X8_halves n v1 s = some (r, s9)) : zV h ad zLM 5 G s 0 [(0, .ref (ad 0)), (1, .int v1)] [] := by
  rw [m_X8_halves] at hm
  refine z_iconst (v := (0 : Int32)) C dX8_halves_0 (by decide) ?_
  refine z_istore_n (y := (0 : Int32)) (lv' := [(2, .int (0 : Int32)), (0, .ref (ad 0)), (1, .int v1)]) C dX8_halves_1 rfl (by decide) rfl rfl ?_
  refine z_aload_n C dX8_halves_2 rfl 1 rfl ?_
  refine z_getr C kM0 vc8 eX8_halves_uX8 14 (by decide) rfl eX8_halves_f40 rfl dX8_halves_3 ?_
  refine z_aload_n C dX8_halves_6 rfl 1 rfl ?_
  refine z_getr C kM0 vc8 eX8_halves_uX8 1 (by decide) rfl eX8_halves_f13 rfl dX8_halves_7 ?_
  refine z_iload_n C dX8_halves_10 rfl 2 rfl ?_
  obtain ⟨x11, i_x11, e_x11, hm⟩ := zRd_of hm
  refine z_iald C kM2 i_x11 e_x11 dX8_halves_11 ?_
  obtain ⟨x12, i_x12, e_x12, hm⟩ := zRd_of hm
  refine z_iald C kM11 i_x12 e_x12 dX8_halves_12 ?_
  refine z_istore_n (y := x12) (lv' := [(3, .int x12), (2, .int (0 : Int32)), (0, .ref (ad 0)), (1, .int v1)]) C dX8_halves_13 rfl (by decide) rfl rfl ?_
  exact z_sub [2, 3, 1, 0] rfl (w_X8_halves_j14 C hQ  _ _ _ _ _ hm)
set_option maxRecDepth 100000 in
set_option maxHeartbeats 4000000 in
theorem c_X8_halves {h : zH} {ad : Nat → Nat} (hI : zI ad zLM.length) (hst : h.1.stackTraces = false) {n : Nat} {v1 : Int32} {s s9 : zS} {r : Int32} (hm : m_X8_halves n v1 s = some (r, s9)) : zMR h ad zLM true yX8_halves wsX8_halves 4 100 [.ref (ad 0), .int v1] s (.inl r) s9 :=
  z_start (cc := cX8_halves) (nL := 5) (ret := none) (own := RX8) (by decide +kernel) rfl rfl hI hst (Nat.le_of_ble_eq_true rfl) (fun G C hQ => w_X8_halves_e C hQ _ hm)
set_option maxRecDepth 100000 in
theorem eX8_solves_uX8 : ∀ w ∈ wsX80, w ∈ wsX8_solves := by decide +kernel
set_option maxRecDepth 100000 in
theorem eX8_solves_f7 : Cond.fieldLink RX8 7 RX8 (TX8 0).2.1 (TX8 0).2.2.1 ∈ wsX8_solves := by decide +kernel
set_option maxRecDepth 100000 in
theorem eX8_solves_f43 : Cond.fieldLink RX8 43 RX8 (TX8 15).2.1 (TX8 15).2.2.1 ∈ wsX8_solves := by decide +kernel
set_option maxRecDepth 100000 in
theorem eX8_solves_f13 : Cond.fieldLink RX8 13 RX8 (TX8 1).2.1 (TX8 1).2.2.1 ∈ wsX8_solves := by decide +kernel
set_option maxRecDepth 100000 in
theorem eX8_solves_f40 : Cond.fieldLink RX8 40 RX8 (TX8 14).2.1 (TX8 14).2.2.1 ∈ wsX8_solves := by decide +kernel
set_option maxRecDepth 100000 in
set_option maxHeartbeats 4000000 in
theorem w_X8_solves_j127 {h : zH} {ad : Nat → Nat} {G : zG} (C : zC h ad zLM 5 G cX8_solves RX8 wsX8_solves 5 124) {n : Nat} {r : Int32} {s9 : zS} (hQ : zQ h ad zLM G true (.inl r) s9 none) {rec53 : Int32 → zS → Option (Int32 × zS)} {rec62 : Int32 → Int32 → zS → Option (Int32 × zS)} (hrec53 : ∀ (v3 : Int32) (s : zS), rec53 v3 s = some (r, s9) → zV h ad zLM 5 G s 53 [(0, .ref (ad 0)), (3, .int v3)] []) (hrec62 : ∀ (v3 : Int32) (v4 : Int32) (s : zS), rec62 v3 v4 s = some (r, s9) → zV h ad zLM 5 G s 62 [(0, .ref (ad 0)), (3, .int v3), (4, .int v4)] []) (v3 : Int32) (v4 : Int32) (s : zS) (hm : m_X8_solves_j127 rec53 rec62 n v3 v4 s = some (r, s9)) : zV h ad zLM 5 G s 127 [(0, .ref (ad 0)), (3, .int v3), (4, .int v4)] [] := by
  rw [m_X8_solves_j127] at hm
  obtain ⟨x1, e_x1, hm⟩ := zLt_of hm
  refine z_iinc (j := 2) (v := x1) (d := (1 : Int32)) (lv' := [(4, .int x1), (0, .ref (ad 0)), (3, .int v3)]) C dX8_solves_127 rfl (by decide) e_x1 (by decide) rfl ?_
  refine z_goto (tgt := 62) C dX8_solves_130 (by decide) ?_
  exact z_sub [1, 2, 0] rfl (hrec62 _ _ _ hm)
set_option maxRecDepth 100000 in
set_option maxHeartbeats 4000000 in
theorem w_X8_solves_j62 {h : zH} {ad : Nat → Nat} {G : zG} (C : zC h ad zLM 5 G cX8_solves RX8 wsX8_solves 5 124) {n : Nat} {r : Int32} {s9 : zS} (hQ : zQ h ad zLM G true (.inl r) s9 none) {rec53 : Int32 → zS → Option (Int32 × zS)} (hrec53 : ∀ (v3 : Int32) (s : zS), rec53 v3 s = some (r, s9) → zV h ad zLM 5 G s 53 [(0, .ref (ad 0)), (3, .int v3)] []) : ∀ (f : Nat) (v3 : Int32) (v4 : Int32) (s : zS), m_X8_solves_j62 rec53 n f v3 v4 s = some (r, s9) → zV h ad zLM 5 G s 62 [(0, .ref (ad 0)), (3, .int v3), (4, .int v4)] [] := by
  intro f
  induction f with
  | zero => intro v3 v4 s hm; simp [m_X8_solves_j62] at hm
  | succ f ih =>
    intro v3 v4 s hm
    rw [m_X8_solves_j62] at hm
    refine z_iload C dX8_solves_62 2 rfl ?_
    refine z_bipush (v := (16 : Int32)) C dX8_solves_64 (by decide) ?_
    refine z_icmp_ge (tgt := 133) C dX8_solves_66 (by decide) (fun c2 => ?_) (fun c2 => ?_)
    · have hm := zIt hm c2
      obtain ⟨x3, e_x3, hm⟩ := zLt_of hm
      refine z_iinc (j := 1) (v := x3) (d := (1 : Int32)) (lv' := [(3, .int x3), (0, .ref (ad 0)), (4, .int v4)]) C dX8_solves_133 rfl (by decide) e_x3 (by decide) rfl ?_
      refine z_goto (tgt := 53) C dX8_solves_136 (by decide) ?_
      exact z_sub [1, 0] rfl (hrec53 _ _ hm)
    · have hm := zIf hm c2
      refine z_aload_n C dX8_solves_69 rfl 0 rfl ?_
      refine z_getr C kM0 vc8 eX8_solves_uX8 0 (by decide) rfl eX8_solves_f7 rfl dX8_solves_70 ?_
      refine z_iload C dX8_solves_73 2 rfl ?_
      obtain ⟨x4, i_x4, e_x4, hm⟩ := zRd_of hm
      refine z_iald C kM1 i_x4 e_x4 dX8_solves_75 ?_
      refine z_bipush (v := (8 : Int32)) C dX8_solves_76 (by decide) ?_
      refine z_icmp_ne (tgt := 127) C dX8_solves_78 (by decide) (fun c5 => ?_) (fun c5 => ?_)
      · have hm := zIf hm c5
        exact z_sub [0, 1, 2] rfl (w_X8_solves_j127 C hQ hrec53 ih _ _ _ hm)
      · have hm := zIt hm c5
        refine z_aload_n C dX8_solves_81 rfl 0 rfl ?_
        refine z_getr C kM0 vc8 eX8_solves_uX8 15 (by decide) rfl eX8_solves_f43 rfl dX8_solves_82 ?_
        refine z_iload C dX8_solves_85 2 rfl ?_
        obtain ⟨x6, i_x6, e_x6, hm⟩ := zRd_of hm
        refine z_zald C kM12 i_x6 e_x6 dX8_solves_87 ?_
        refine z_if_ne (tgt := 127) C dX8_solves_88 (by decide) (fun c7 => ?_) (fun c7 => ?_)
        · have hm := zIf hm c7
          exact z_sub [0, 1, 2] rfl (w_X8_solves_j127 C hQ hrec53 ih _ _ _ hm)
        · have hm := zIt hm c7
          refine z_aload_n C dX8_solves_91 rfl 0 rfl ?_
          refine z_getr C kM0 vc8 eX8_solves_uX8 15 (by decide) rfl eX8_solves_f43 rfl dX8_solves_92 ?_
          refine z_aload_n C dX8_solves_95 rfl 0 rfl ?_
          refine z_getr C kM0 vc8 eX8_solves_uX8 1 (by decide) rfl eX8_solves_f13 rfl dX8_solves_96 ?_
          refine z_iload C dX8_solves_99 2 rfl ?_
          obtain ⟨x8, i_x8, e_x8, hm⟩ := zRd_of hm
          refine z_iald C kM2 i_x8 e_x8 dX8_solves_101 ?_
          obtain ⟨x9, i_x9, e_x9, hm⟩ := zRd_of hm
          refine z_zald C kM12 i_x9 e_x9 dX8_solves_102 ?_
          refine z_if_eq (tgt := 127) C dX8_solves_103 (by decide) (fun c10 => ?_) (fun c10 => ?_)
          · have hm := zIt hm c10
            exact z_sub [0, 1, 2] rfl (w_X8_solves_j127 C hQ hrec53 ih _ _ _ hm)
          · have hm := zIf hm c10
            refine z_aload_n C dX8_solves_106 rfl 0 rfl ?_
            refine z_iload C dX8_solves_107 2 rfl ?_
            refine z_iconst (v := (0 : Int32)) C dX8_solves_109 (by decide) ?_
            obtain ⟨x11, s12, q_s12, hm⟩ := zBd_of hm
            refine z_cV (vd := false) (Cn := RX8) (k := 0) C 2 [.int v4, .int (0 : Int32)] [] (c_X8_tries (zC_I C) (zC_st C)  q_s12) gX8_solves_X8_tries (by decide +kernel) kM0 vc8 rfl rfl dX8_solves_110 rfl ⟨Nat.le_of_ble_eq_true rfl, Nat.le_of_ble_eq_true rfl⟩ rfl (Nat.le_of_ble_eq_true rfl) ?_
            refine z_if_eq (tgt := 127) C dX8_solves_113 (by decide) (fun c13 => ?_) (fun c13 => ?_)
            · have hm := zIt hm c13
              exact z_sub [0, 1, 2] rfl (w_X8_solves_j127 C hQ hrec53 ih _ _ _ hm)
            · have hm := zIf hm c13
              refine z_aload_n C dX8_solves_116 rfl 0 rfl ?_
              refine z_iload C dX8_solves_117 2 rfl ?_
              obtain ⟨x14, s15, q_s15, hm⟩ := zBd_of hm
              refine z_cV (vd := true) (Cn := RX8) (k := 0) C 1 [.int v4] [] (c_X8_halves (zC_I C) (zC_st C)  q_s15) gX8_solves_X8_halves (by decide +kernel) kM0 vc8 rfl rfl dX8_solves_119 rfl ⟨Nat.le_of_ble_eq_true rfl, Nat.le_of_ble_eq_true rfl⟩ rfl (Nat.le_of_ble_eq_true rfl) ?_
              refine z_aload_n C dX8_solves_122 rfl 0 rfl ?_
              refine z_iconst (v := (0 : Int32)) C dX8_solves_123 (by decide) ?_
              obtain ⟨x16, s17, q_s17, hm⟩ := zBd_of hm
              refine z_cV (vd := true) (Cn := RX8) (k := 0) C 1 [.int (0 : Int32)] [] (c_X8_passes (zC_I C) (zC_st C)  q_s17) gX8_solves_X8_passes (by decide +kernel) kM0 vc8 rfl rfl dX8_solves_124 rfl ⟨Nat.le_of_ble_eq_true rfl, Nat.le_of_ble_eq_true rfl⟩ rfl (Nat.le_of_ble_eq_true rfl) ?_
              exact z_sub [0, 1, 2] rfl (w_X8_solves_j127 C hQ hrec53 ih _ _ _ hm)
set_option maxRecDepth 100000 in
set_option maxHeartbeats 4000000 in
theorem w_X8_solves_j53 {h : zH} {ad : Nat → Nat} {G : zG} (C : zC h ad zLM 5 G cX8_solves RX8 wsX8_solves 5 124) {n : Nat} {r : Int32} {s9 : zS} (hQ : zQ h ad zLM G true (.inl r) s9 none) : ∀ (f : Nat) (v3 : Int32) (s : zS), m_X8_solves_j53 n f v3 s = some (r, s9) → zV h ad zLM 5 G s 53 [(0, .ref (ad 0)), (3, .int v3)] [] := by
  intro f
  induction f with
  | zero => intro v3 s hm; simp [m_X8_solves_j53] at hm
  | succ f ih =>
    intro v3 s hm
    rw [m_X8_solves_j53] at hm
    refine z_iload_n C dX8_solves_53 rfl 1 rfl ?_
    refine z_bipush (v := (16 : Int32)) C dX8_solves_54 (by decide) ?_
    refine z_icmp_ge (tgt := 139) C dX8_solves_56 (by decide) (fun c18 => ?_) (fun c18 => ?_)
    · have hm := zIt hm c18
      exact z_vret0 C hQ (zRt_of hm).1 (zRt_of hm).2 dX8_solves_139
    · have hm := zIf hm c18
      refine z_iconst (v := (0 : Int32)) C dX8_solves_59 (by decide) ?_
      refine z_istore (y := (0 : Int32)) (lv' := [(4, .int (0 : Int32)), (0, .ref (ad 0)), (3, .int v3)]) C dX8_solves_60 (by decide) rfl rfl ?_
      exact z_sub [1, 2, 0] rfl (w_X8_solves_j62 C hQ ih _ _ _ _ hm)
set_option maxRecDepth 100000 in
set_option maxHeartbeats 4000000 in
theorem w_X8_solves_j23 {h : zH} {ad : Nat → Nat} {G : zG} (C : zC h ad zLM 5 G cX8_solves RX8 wsX8_solves 5 124) {n : Nat} {r : Int32} {s9 : zS} (hQ : zQ h ad zLM G true (.inl r) s9 none) {rec2 : Int32 → Int32 → Int32 → zS → Option (Int32 × zS)} (hrec2 : ∀ (v1 : Int32) (v2 : Int32) (v3 : Int32) (s : zS), rec2 v1 v2 v3 s = some (r, s9) → zV h ad zLM 5 G s 2 [(0, .ref (ad 0)), (1, .int v1), (2, .int v2), (3, .int v3)] []) (v1 : Int32) (v2 : Int32) (v3 : Int32) (t1 : Int32) (t2 : Int32) (s : zS) (hm : m_X8_solves_j23 rec2 n v1 v2 v3 t1 t2 s = some (r, s9)) : zV h ad zLM 5 G s 23 [(0, .ref (ad 0)), (1, .int v1), (2, .int v2), (3, .int v3)] [.int t2, .int t1, .ref (ad 12)] := by
  rw [m_X8_solves_j23] at hm
  obtain ⟨s19, i_s19, e_s19, hm⟩ := zWr_of hm
  refine z_zast C kM12 i_s19 e_s19 dX8_solves_23 ?_
  refine z_aload_n C dX8_solves_24 rfl 0 rfl ?_
  refine z_getr C kM0 vc8 eX8_solves_uX8 14 (by decide) rfl eX8_solves_f40 rfl dX8_solves_25 ?_
  refine z_iload_n C dX8_solves_28 rfl 3 rfl ?_
  refine z_iload_n C dX8_solves_29 rfl 3 rfl ?_
  refine z_iload_n C dX8_solves_30 rfl 1 rfl ?_
  refine z_icmp_ne (tgt := 38) C dX8_solves_31 (by decide) (fun c20 => ?_) (fun c20 => ?_)
  · have hm := zIf hm c20
    refine z_iconst (v := (0 : Int32)) C dX8_solves_38 (by decide) ?_
    obtain ⟨s21, i_s21, e_s21, hm⟩ := zWr_of hm
    refine z_iast C kM11 i_s21 e_s21 dX8_solves_39 ?_
    obtain ⟨x22, e_x22, hm⟩ := zLt_of hm
    refine z_iinc (j := 3) (v := x22) (d := (1 : Int32)) (lv' := [(3, .int x22), (0, .ref (ad 0)), (1, .int v1), (2, .int v2)]) C dX8_solves_40 rfl (by decide) e_x22 (by decide) rfl ?_
    refine z_goto (tgt := 2) C dX8_solves_43 (by decide) ?_
    exact z_sub [1, 2, 3, 0] rfl (hrec2 _ _ _ _ hm)
  · have hm := zIt hm c20
    refine z_iload_n C dX8_solves_34 rfl 2 rfl ?_
    refine z_goto (tgt := 39) C dX8_solves_35 (by decide) ?_
    obtain ⟨s23, i_s23, e_s23, hm⟩ := zWr_of hm
    refine z_iast C kM11 i_s23 e_s23 dX8_solves_39 ?_
    obtain ⟨x24, e_x24, hm⟩ := zLt_of hm
    refine z_iinc (j := 3) (v := x24) (d := (1 : Int32)) (lv' := [(3, .int x24), (0, .ref (ad 0)), (1, .int v1), (2, .int v2)]) C dX8_solves_40 rfl (by decide) e_x24 (by decide) rfl ?_
    refine z_goto (tgt := 2) C dX8_solves_43 (by decide) ?_
    exact z_sub [1, 2, 3, 0] rfl (hrec2 _ _ _ _ hm)
set_option maxRecDepth 100000 in
set_option maxHeartbeats 4000000 in
theorem w_X8_solves_j2 {h : zH} {ad : Nat → Nat} {G : zG} (C : zC h ad zLM 5 G cX8_solves RX8 wsX8_solves 5 124) {n : Nat} {r : Int32} {s9 : zS} (hQ : zQ h ad zLM G true (.inl r) s9 none) : ∀ (f : Nat) (v1 : Int32) (v2 : Int32) (v3 : Int32) (s : zS), m_X8_solves_j2 n f v1 v2 v3 s = some (r, s9) → zV h ad zLM 5 G s 2 [(0, .ref (ad 0)), (1, .int v1), (2, .int v2), (3, .int v3)] [] := by
  intro f
  induction f with
  | zero => intro v1 v2 v3 s hm; simp [m_X8_solves_j2] at hm
  | succ f ih =>
    intro v1 v2 v3 s hm
    rw [m_X8_solves_j2] at hm
    refine z_iload_n C dX8_solves_2 rfl 3 rfl ?_
    refine z_bipush (v := (16 : Int32)) C dX8_solves_3 (by decide) ?_
    refine z_icmp_ge (tgt := 46) C dX8_solves_5 (by decide) (fun c25 => ?_) (fun c25 => ?_)
    · have hm := zIt hm c25
      refine z_aload_n C dX8_solves_46 rfl 0 rfl ?_
      refine z_iconst (v := (0 : Int32)) C dX8_solves_47 (by decide) ?_
      obtain ⟨x26, s27, q_s27, hm⟩ := zBd_of hm
      refine z_cV (vd := true) (Cn := RX8) (k := 0) C 1 [.int (0 : Int32)] [] (c_X8_passes (zC_I C) (zC_st C)  q_s27) gX8_solves_X8_passes (by decide +kernel) kM0 vc8 rfl rfl dX8_solves_48 rfl ⟨Nat.le_of_ble_eq_true rfl, Nat.le_of_ble_eq_true rfl⟩ rfl (Nat.le_of_ble_eq_true rfl) ?_
      refine z_iconst (v := (0 : Int32)) C dX8_solves_51 (by decide) ?_
      refine z_istore_n (y := (0 : Int32)) (lv' := [(3, .int (0 : Int32)), (0, .ref (ad 0)), (1, .int v1), (2, .int v2)]) C dX8_solves_52 rfl (by decide) rfl rfl ?_
      exact z_sub [1, 0] rfl (w_X8_solves_j53 C hQ  _ _ _ hm)
    · have hm := zIf hm c25
      refine z_aload_n C dX8_solves_8 rfl 0 rfl ?_
      refine z_getr C kM0 vc8 eX8_solves_uX8 15 (by decide) rfl eX8_solves_f43 rfl dX8_solves_9 ?_
      refine z_iload_n C dX8_solves_12 rfl 3 rfl ?_
      refine z_iload_n C dX8_solves_13 rfl 3 rfl ?_
      refine z_iload_n C dX8_solves_14 rfl 1 rfl ?_
      refine z_icmp_ne (tgt := 22) C dX8_solves_15 (by decide) (fun c28 => ?_) (fun c28 => ?_)
      · have hm := zIf hm c28
        refine z_iconst (v := (0 : Int32)) C dX8_solves_22 (by decide) ?_
        exact z_sub [0, 1, 2, 3] rfl (w_X8_solves_j23 C hQ ih _ _ _ _ _ _ hm)
      · have hm := zIt hm c28
        refine z_iconst (v := (1 : Int32)) C dX8_solves_18 (by decide) ?_
        refine z_goto (tgt := 23) C dX8_solves_19 (by decide) ?_
        exact z_sub [0, 1, 2, 3] rfl (w_X8_solves_j23 C hQ ih _ _ _ _ _ _ hm)
set_option maxRecDepth 100000 in
set_option maxHeartbeats 4000000 in
theorem w_X8_solves_e {h : zH} {ad : Nat → Nat} {G : zG} (C : zC h ad zLM 5 G cX8_solves RX8 wsX8_solves 5 124) {n : Nat} {r : Int32} {s9 : zS} (hQ : zQ h ad zLM G true (.inl r) s9 none) {v1 : Int32} {v2 : Int32} (s : zS) (hm : m_X8_solves n v1 v2 s = some (r, s9)) : zV h ad zLM 5 G s 0 [(0, .ref (ad 0)), (1, .int v1), (2, .int v2)] [] := by
  rw [m_X8_solves] at hm
  refine z_iconst (v := (0 : Int32)) C dX8_solves_0 (by decide) ?_
  refine z_istore_n (y := (0 : Int32)) (lv' := [(3, .int (0 : Int32)), (0, .ref (ad 0)), (1, .int v1), (2, .int v2)]) C dX8_solves_1 rfl (by decide) rfl rfl ?_
  exact z_sub [1, 2, 3, 0] rfl (w_X8_solves_j2 C hQ  _ _ _ _ _ hm)
set_option maxRecDepth 100000 in
set_option maxHeartbeats 4000000 in
theorem c_X8_solves {h : zH} {ad : Nat → Nat} (hI : zI ad zLM.length) (hst : h.1.stackTraces = false) {n : Nat} {v1 : Int32} {v2 : Int32} {s s9 : zS} {r : Int32} (hm : m_X8_solves n v1 v2 s = some (r, s9)) : zMR h ad zLM true yX8_solves wsX8_solves 5 124 [.ref (ad 0), .int v1, .int v2] s (.inl r) s9 :=
  z_start (cc := cX8_solves) (nL := 5) (ret := none) (own := RX8) (by decide +kernel) rfl rfl hI hst (Nat.le_of_ble_eq_true rfl) (fun G C hQ => w_X8_solves_e C hQ _ hm)
