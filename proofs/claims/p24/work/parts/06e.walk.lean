theorem eX7_checkPlace_at : ∀ w ∈ (vx_at0 RX7 198 "java/lang/IndexOutOfBoundsException" ["java/lang/RuntimeException", "java/lang/Exception"]).filter goodWord, w ∈ wsX7_checkPlace := fun w hw => List.mem_cons_of_mem _ (List.mem_append_right _ hw)
set_option maxRecDepth 100000 in
theorem eX7_checkPlace_go : ∀ w ∈ Cond.classLink RX7 196 "java/lang/IndexOutOfBoundsException" :: Cond.initialized "java/lang/IndexOutOfBoundsException" :: vx_at0 RX7 198 "java/lang/IndexOutOfBoundsException" ["java/lang/RuntimeException", "java/lang/Exception"], vx_ot w = true := by decide +kernel
set_option maxRecDepth 100000 in
theorem eX7_checkPlace_ba : ∀ w ∈ (vx_at0 RX7 198 "java/lang/IndexOutOfBoundsException" ["java/lang/RuntimeException", "java/lang/Exception"]).filter (fun w => !goodWord w), w ∈ zBl "java/lang/IndexOutOfBoundsException" := by decide +kernel
set_option maxRecDepth 100000 in
theorem eX7_checkPlace_k196 : Cond.classLink RX7 196 "java/lang/IndexOutOfBoundsException" ∈ wsX7_checkPlace := by decide +kernel
set_option maxRecDepth 100000 in
theorem eX7_checkPlace_i196 : Cond.initialized "java/lang/IndexOutOfBoundsException" ∈ wsX7_checkPlace := by decide +kernel
set_option maxRecDepth 100000 in
set_option maxHeartbeats 4000000 in
theorem w_X7_checkPlace_e {h : zH} {ad : Nat → Nat} {G : zG} (C : zC h ad zLX 1 G cX7_checkPlace RX7 wsX7_checkPlace 6 90) {n : Nat} {res : Int32 ⊕ Nat} {s9 : zS} (hQ : zQ h ad zLX G true (res) s9 none) {v0 : Int32} (s : zS) (hm : m_X7_checkPlace n v0 s = some (res, s9)) : zV h ad zLX 1 G s 0 [(0, .int v0)] [] := by
  rw [m_X7_checkPlace] at hm
  refine z_iload_n C dX7_checkPlace_0 rfl 0 rfl ?_
  refine z_if_ne (tgt := 12) C dX7_checkPlace_1 (by decide) (fun c1 => ?_) (fun c1 => ?_)
  · have hm := zIf hm c1
    exact z_vret0 C hQ (zRx_of hm).1 (zRx_of hm).2 dX7_checkPlace_12
  · have hm := zIt hm c1
    obtain ⟨h1, h2⟩ := zTx_of hm
    subst h1
    subst h2
    exact z_throw C hQ rfl (by decide +kernel) (by decide +kernel) eX7_checkPlace_k196 eX7_checkPlace_i196 eX7_checkPlace_at eX7_checkPlace_ba eX7_checkPlace_go dX7_checkPlace_4 dX7_checkPlace_7 dX7_checkPlace_8 dX7_checkPlace_11 (Nat.le_of_ble_eq_true rfl) (Nat.le_of_ble_eq_true rfl)
set_option maxRecDepth 100000 in
set_option maxHeartbeats 4000000 in
theorem c_X7_checkPlace {h : zH} {ad : Nat → Nat} (hI : zI ad zLX.length) (hst : h.1.stackTraces = false) {n : Nat} {v0 : Int32} {s s9 : zS} {res : Int32 ⊕ Nat} (hm : m_X7_checkPlace n v0 s = some (res, s9)) : zMR h ad zLX true yX7_checkPlace wsX7_checkPlace 6 90 [.int v0] s (res) s9 :=
  z_start (cc := cX7_checkPlace) (nL := 1) (ret := none) (own := RX7) (by decide +kernel) rfl rfl hI hst (Nat.le_of_ble_eq_true rfl) (fun G C hQ => w_X7_checkPlace_e C hQ _ hm)
set_option maxRecDepth 100000 in
set_option maxHeartbeats 4000000 in
theorem w_X7_checkLine_e {h : zH} {ad : Nat → Nat} {G : zG} (C : zC h ad zLX 1 G cX7_checkLine RX7 wsX7_checkLine 7 110) {n : Nat} {res : Int32 ⊕ Nat} {s9 : zS} (hQ : zQ h ad zLX G true (res) s9 none) {v0 : Int32} (s : zS) (hm : m_X7_checkLine n v0 s = some (res, s9)) : zV h ad zLX 1 G s 0 [(0, .int v0)] [] := by
  rw [m_X7_checkLine] at hm
  refine z_iload_n C dX7_checkLine_0 rfl 0 rfl ?_
  refine z_iconst (v := (0 : Int32)) C dX7_checkLine_1 (by decide) ?_
  refine z_bipush (v := (15 : Int32)) C dX7_checkLine_2 (by decide) ?_
  obtain ⟨x1, s2, q_s2, hm⟩ := zBd_of hm
  refine z_cS (vd := false) C 3 [.int v0, .int (0 : Int32), .int (15 : Int32)] [] (c_X7_isWithin (zC_I C) (zC_st C)  q_s2) gX7_checkLine_X7_isWithin (by decide +kernel) rfl dX7_checkLine_4 rfl ⟨Nat.le_of_ble_eq_true rfl, Nat.le_of_ble_eq_true rfl⟩ rfl (Nat.le_of_ble_eq_true rfl) ?_
  rcases zBx_of hm with h_s4 | ⟨k_s4, q_s4, r_s4⟩
  rotate_left
  · subst r_s4
    exact z_xS (vd := true) C 1 [.int x1] [] (c_X7_checkPlace (zC_I C) (zC_st C)  q_s4) hQ gX7_checkLine_X7_checkPlace (by decide +kernel) rfl dX7_checkLine_7 rfl ⟨Nat.le_of_ble_eq_true rfl, Nat.le_of_ble_eq_true rfl⟩ rfl (Nat.le_of_ble_eq_true rfl)
  obtain ⟨x3, s4, q_s4, hm⟩ := h_s4
  refine z_cS (vd := true) C 1 [.int x1] [] (c_X7_checkPlace (zC_I C) (zC_st C)  q_s4) gX7_checkLine_X7_checkPlace (by decide +kernel) rfl dX7_checkLine_7 rfl ⟨Nat.le_of_ble_eq_true rfl, Nat.le_of_ble_eq_true rfl⟩ rfl (Nat.le_of_ble_eq_true rfl) ?_
  exact z_vret0 C hQ (zRx_of hm).1 (zRx_of hm).2 dX7_checkLine_10
set_option maxRecDepth 100000 in
set_option maxHeartbeats 4000000 in
theorem c_X7_checkLine {h : zH} {ad : Nat → Nat} (hI : zI ad zLX.length) (hst : h.1.stackTraces = false) {n : Nat} {v0 : Int32} {s s9 : zS} {res : Int32 ⊕ Nat} (hm : m_X7_checkLine n v0 s = some (res, s9)) : zMR h ad zLX true yX7_checkLine wsX7_checkLine 7 110 [.int v0] s (res) s9 :=
  z_start (cc := cX7_checkLine) (nL := 1) (ret := none) (own := RX7) (by decide +kernel) rfl rfl hI hst (Nat.le_of_ble_eq_true rfl) (fun G C hQ => w_X7_checkLine_e C hQ _ hm)
theorem eX7_checkArgument_at : ∀ w ∈ (vx_at0 RX7 201 "java/lang/IllegalArgumentException" ["java/lang/RuntimeException", "java/lang/Exception"]).filter goodWord, w ∈ wsX7_checkArgument := fun w hw => List.mem_cons_of_mem _ (List.mem_append_right _ hw)
set_option maxRecDepth 100000 in
theorem eX7_checkArgument_go : ∀ w ∈ Cond.classLink RX7 199 "java/lang/IllegalArgumentException" :: Cond.initialized "java/lang/IllegalArgumentException" :: vx_at0 RX7 201 "java/lang/IllegalArgumentException" ["java/lang/RuntimeException", "java/lang/Exception"], vx_ot w = true := by decide +kernel
set_option maxRecDepth 100000 in
theorem eX7_checkArgument_ba : ∀ w ∈ (vx_at0 RX7 201 "java/lang/IllegalArgumentException" ["java/lang/RuntimeException", "java/lang/Exception"]).filter (fun w => !goodWord w), w ∈ zBl "java/lang/IllegalArgumentException" := by decide +kernel
set_option maxRecDepth 100000 in
theorem eX7_checkArgument_k199 : Cond.classLink RX7 199 "java/lang/IllegalArgumentException" ∈ wsX7_checkArgument := by decide +kernel
set_option maxRecDepth 100000 in
theorem eX7_checkArgument_i199 : Cond.initialized "java/lang/IllegalArgumentException" ∈ wsX7_checkArgument := by decide +kernel
set_option maxRecDepth 100000 in
set_option maxHeartbeats 4000000 in
theorem w_X7_checkArgument_e {h : zH} {ad : Nat → Nat} {G : zG} (C : zC h ad zLX 1 G cX7_checkArgument RX7 wsX7_checkArgument 6 90) {n : Nat} {res : Int32 ⊕ Nat} {s9 : zS} (hQ : zQ h ad zLX G true (res) s9 none) {v0 : Int32} (s : zS) (hm : m_X7_checkArgument n v0 s = some (res, s9)) : zV h ad zLX 1 G s 0 [(0, .int v0)] [] := by
  rw [m_X7_checkArgument] at hm
  refine z_iload_n C dX7_checkArgument_0 rfl 0 rfl ?_
  refine z_if_ne (tgt := 12) C dX7_checkArgument_1 (by decide) (fun c1 => ?_) (fun c1 => ?_)
  · have hm := zIf hm c1
    exact z_vret0 C hQ (zRx_of hm).1 (zRx_of hm).2 dX7_checkArgument_12
  · have hm := zIt hm c1
    obtain ⟨h1, h2⟩ := zTx_of hm
    subst h1
    subst h2
    exact z_throw C hQ rfl (by decide +kernel) (by decide +kernel) eX7_checkArgument_k199 eX7_checkArgument_i199 eX7_checkArgument_at eX7_checkArgument_ba eX7_checkArgument_go dX7_checkArgument_4 dX7_checkArgument_7 dX7_checkArgument_8 dX7_checkArgument_11 (Nat.le_of_ble_eq_true rfl) (Nat.le_of_ble_eq_true rfl)
set_option maxRecDepth 100000 in
set_option maxHeartbeats 4000000 in
theorem c_X7_checkArgument {h : zH} {ad : Nat → Nat} (hI : zI ad zLX.length) (hst : h.1.stackTraces = false) {n : Nat} {v0 : Int32} {s s9 : zS} {res : Int32 ⊕ Nat} (hm : m_X7_checkArgument n v0 s = some (res, s9)) : zMR h ad zLX true yX7_checkArgument wsX7_checkArgument 6 90 [.int v0] s (res) s9 :=
  z_start (cc := cX7_checkArgument) (nL := 1) (ret := none) (own := RX7) (by decide +kernel) rfl rfl hI hst (Nat.le_of_ble_eq_true rfl) (fun G C hQ => w_X7_checkArgument_e C hQ _ hm)
set_option maxRecDepth 100000 in
theorem eX7_define_uX7 : ∀ w ∈ wsX70, w ∈ wsX7_define := by decide +kernel
set_option maxRecDepth 100000 in
theorem eX7_define_f10 : Cond.fieldLink RX7 10 RX7 (TX7 0).2.1 (TX7 0).2.2.1 ∈ wsX7_define := by decide +kernel
set_option maxRecDepth 100000 in
theorem eX7_define_f19 : Cond.fieldLink RX7 19 RX7 (TX7 1).2.1 (TX7 1).2.2.1 ∈ wsX7_define := by decide +kernel
theorem eX7_define_at : ∀ w ∈ (vx_at0 RX7 102 "java/lang/IllegalStateException" ["java/lang/RuntimeException", "java/lang/Exception"]).filter goodWord, w ∈ wsX7_define := fun w hw => List.mem_cons_of_mem _ (List.mem_append_left _ (List.mem_append_left _ (List.mem_append_right _ hw)))
set_option maxRecDepth 100000 in
theorem eX7_define_go : ∀ w ∈ Cond.classLink RX7 100 "java/lang/IllegalStateException" :: Cond.initialized "java/lang/IllegalStateException" :: vx_at0 RX7 102 "java/lang/IllegalStateException" ["java/lang/RuntimeException", "java/lang/Exception"], vx_ot w = true := by decide +kernel
set_option maxRecDepth 100000 in
theorem eX7_define_ba : ∀ w ∈ (vx_at0 RX7 102 "java/lang/IllegalStateException" ["java/lang/RuntimeException", "java/lang/Exception"]).filter (fun w => !goodWord w), w ∈ zBl "java/lang/IllegalStateException" := by decide +kernel
set_option maxRecDepth 100000 in
theorem eX7_define_k100 : Cond.classLink RX7 100 "java/lang/IllegalStateException" ∈ wsX7_define := by decide +kernel
set_option maxRecDepth 100000 in
theorem eX7_define_i100 : Cond.initialized "java/lang/IllegalStateException" ∈ wsX7_define := by decide +kernel
set_option maxRecDepth 100000 in
set_option maxHeartbeats 4000000 in
theorem w_X7_define_j73 {h : zH} {ad : Nat → Nat} {G : zG} (C : zC h ad zLX 9 G cX7_define RX7 wsX7_define 8 140) {n : Nat} {res : Int32 ⊕ Nat} {s9 : zS} (hQ : zQ h ad zLX G true (res) s9 none) (v1 : Int32) (v2 : Int32) (v3 : Int32) (v4 : Int32) (t0 : Int32) (s : zS) (hm : m_X7_define_j73 n v1 v2 v3 v4 t0 s = some (res, s9)) : zV h ad zLX 9 G s 73 [(0, .ref (ad 0)), (1, .int v1), (2, .int v2), (3, .int v3), (4, .int v4)] [.int t0] := by
  rw [m_X7_define_j73] at hm
  rcases zBx_of hm with h_s2 | ⟨k_s2, q_s2, r_s2⟩
  rotate_left
  · subst r_s2
    exact z_xS (vd := true) C 1 [.int t0] [] (c_X7_checkArgument (zC_I C) (zC_st C)  q_s2) hQ gX7_define_X7_checkArgument (by decide +kernel) rfl dX7_define_73 rfl ⟨Nat.le_of_ble_eq_true rfl, Nat.le_of_ble_eq_true rfl⟩ rfl (Nat.le_of_ble_eq_true rfl)
  obtain ⟨x1, s2, q_s2, hm⟩ := h_s2
  refine z_cS (vd := true) C 1 [.int t0] [] (c_X7_checkArgument (zC_I C) (zC_st C)  q_s2) gX7_define_X7_checkArgument (by decide +kernel) rfl dX7_define_73 rfl ⟨Nat.le_of_ble_eq_true rfl, Nat.le_of_ble_eq_true rfl⟩ rfl (Nat.le_of_ble_eq_true rfl) ?_
  refine z_aload_n C dX7_define_76 rfl 0 rfl ?_
  refine z_getr C kX0 vc7 eX7_define_uX7 0 (by decide) rfl eX7_define_f10 rfl dX7_define_77 ?_
  refine z_iload_n C dX7_define_80 rfl 1 rfl ?_
  obtain ⟨x3, s4, q_s4, hm⟩ := zBd_of hm
  refine z_cV (vd := false) (Cn := RX5) (k := 1) C 1 [.int v1] [] (c_X5_kind (zC_I C) (zC_st C)  q_s4) gX7_define_X5_kind (by decide +kernel) kX1 vc5 rfl rfl dX7_define_81 rfl ⟨Nat.le_of_ble_eq_true rfl, Nat.le_of_ble_eq_true rfl⟩ rfl (Nat.le_of_ble_eq_true rfl) ?_
  refine z_istore (y := x3) (lv' := [(6, .int x3), (0, .ref (ad 0)), (1, .int v1), (2, .int v2), (3, .int v3), (4, .int v4)]) C dX7_define_84 (by decide) rfl rfl ?_
  refine z_aload_n C dX7_define_86 rfl 1 rfl ?_
  refine z_getr C kX0 vc7 eX7_define_uX7 0 (by decide) rfl eX7_define_f10 rfl dX7_define_87 ?_
  refine z_iload_n C dX7_define_90 rfl 2 rfl ?_
  obtain ⟨x5, s6, q_s6, hm⟩ := zBd_of hm
  refine z_cV (vd := false) (Cn := RX5) (k := 1) C 1 [.int v1] [] (c_X5_first (zC_I C) (zC_st C)  q_s6) gX7_define_X5_first (by decide +kernel) kX1 vc5 rfl rfl dX7_define_91 rfl ⟨Nat.le_of_ble_eq_true rfl, Nat.le_of_ble_eq_true rfl⟩ rfl (Nat.le_of_ble_eq_true rfl) ?_
  refine z_istore (y := x5) (lv' := [(7, .int x5), (6, .int x3), (0, .ref (ad 0)), (1, .int v1), (2, .int v2), (3, .int v3), (4, .int v4)]) C dX7_define_94 (by decide) rfl rfl ?_
  refine z_aload_n C dX7_define_96 rfl 2 rfl ?_
  refine z_getr C kX0 vc7 eX7_define_uX7 0 (by decide) rfl eX7_define_f10 rfl dX7_define_97 ?_
  refine z_iload_n C dX7_define_100 rfl 3 rfl ?_
  obtain ⟨x7, s8, q_s8, hm⟩ := zBd_of hm
  refine z_cV (vd := false) (Cn := RX5) (k := 1) C 1 [.int v1] [] (c_X5_second (zC_I C) (zC_st C)  q_s8) gX7_define_X5_second (by decide +kernel) kX1 vc5 rfl rfl dX7_define_101 rfl ⟨Nat.le_of_ble_eq_true rfl, Nat.le_of_ble_eq_true rfl⟩ rfl (Nat.le_of_ble_eq_true rfl) ?_
  refine z_istore (y := x7) (lv' := [(8, .int x7), (7, .int x5), (6, .int x3), (0, .ref (ad 0)), (1, .int v1), (2, .int v2), (3, .int v3), (4, .int v4)]) C dX7_define_104 (by decide) rfl rfl ?_
  refine z_aload_n C dX7_define_106 rfl 3 rfl ?_
  refine z_getr C kX0 vc7 eX7_define_uX7 0 (by decide) rfl eX7_define_f10 rfl dX7_define_107 ?_
  refine z_iload_n C dX7_define_110 rfl 4 rfl ?_
  refine z_iload_n C dX7_define_111 rfl 5 rfl ?_
  refine z_iload_n C dX7_define_112 rfl 6 rfl ?_
  refine z_iload C dX7_define_113 7 rfl ?_
  obtain ⟨x9, s10, q_s10, hm⟩ := zBd_of hm
  refine z_cV (vd := true) (Cn := RX5) (k := 1) C 4 [.int v1, .int v2, .int v3, .int v4] [] (c_X5_set (zC_I C) (zC_st C)  q_s10) gX7_define_X5_set (by decide +kernel) kX1 vc5 rfl rfl dX7_define_115 rfl ⟨Nat.le_of_ble_eq_true rfl, Nat.le_of_ble_eq_true rfl⟩ rfl (Nat.le_of_ble_eq_true rfl) ?_
  refine z_aload_n C dX7_define_118 rfl 3 rfl ?_
  refine z_getr C kX0 vc7 eX7_define_uX7 1 (by decide) rfl eX7_define_f19 rfl dX7_define_119 ?_
  refine z_aload_n C dX7_define_122 rfl 3 rfl ?_
  refine z_getr C kX0 vc7 eX7_define_uX7 0 (by decide) rfl eX7_define_f10 rfl dX7_define_123 ?_
  obtain ⟨x11, s12, q_s12, hm⟩ := zBd_of hm
  refine z_cV (vd := false) (Cn := RX4) (k := 6) C 1 [.ref (ad 1)] [] (c_X4_make (zC_I C) (zC_st C)  q_s12) gX7_define_X4_make (by decide +kernel) kX6 vc4 rfl rfl dX7_define_126 rfl ⟨Nat.le_of_ble_eq_true rfl, Nat.le_of_ble_eq_true rfl⟩ rfl (Nat.le_of_ble_eq_true rfl) ?_
  refine z_if_ne (tgt := 166) C dX7_define_129 (by decide) (fun c13 => ?_) (fun c13 => ?_)
  · have hm := zIf hm c13
    exact z_vret0 C hQ (zRx_of hm).1 (zRx_of hm).2 dX7_define_166
  · have hm := zIt hm c13
    refine z_aload_n C dX7_define_132 rfl 3 rfl ?_
    refine z_getr C kX0 vc7 eX7_define_uX7 0 (by decide) rfl eX7_define_f10 rfl dX7_define_133 ?_
    refine z_iload_n C dX7_define_136 rfl 4 rfl ?_
    refine z_iload C dX7_define_137 2 rfl ?_
    refine z_iload C dX7_define_139 1 rfl ?_
    refine z_iload C dX7_define_141 0 rfl ?_
    obtain ⟨x14, s15, q_s15, hm⟩ := zBd_of hm
    refine z_cV (vd := true) (Cn := RX5) (k := 1) C 4 [.int v1, .int x3, .int x5, .int x7] [] (c_X5_set (zC_I C) (zC_st C)  q_s15) gX7_define_X5_set (by decide +kernel) kX1 vc5 rfl rfl dX7_define_143 rfl ⟨Nat.le_of_ble_eq_true rfl, Nat.le_of_ble_eq_true rfl⟩ rfl (Nat.le_of_ble_eq_true rfl) ?_
    refine z_aload_n C dX7_define_146 rfl 3 rfl ?_
    refine z_getr C kX0 vc7 eX7_define_uX7 1 (by decide) rfl eX7_define_f19 rfl dX7_define_147 ?_
    refine z_aload_n C dX7_define_150 rfl 3 rfl ?_
    refine z_getr C kX0 vc7 eX7_define_uX7 0 (by decide) rfl eX7_define_f10 rfl dX7_define_151 ?_
    obtain ⟨x16, s17, q_s17, hm⟩ := zBd_of hm
    refine z_cV (vd := false) (Cn := RX4) (k := 6) C 1 [.ref (ad 1)] [] (c_X4_make (zC_I C) (zC_st C)  q_s17) gX7_define_X4_make (by decide +kernel) kX6 vc4 rfl rfl dX7_define_154 rfl ⟨Nat.le_of_ble_eq_true rfl, Nat.le_of_ble_eq_true rfl⟩ rfl (Nat.le_of_ble_eq_true rfl) ?_
    refine z_pop C dX7_define_157 rfl ?_
    obtain ⟨h1, h2⟩ := zTx_of hm
    subst h1
    subst h2
    exact z_throw C hQ rfl (by decide +kernel) (by decide +kernel) eX7_define_k100 eX7_define_i100 eX7_define_at eX7_define_ba eX7_define_go dX7_define_158 dX7_define_161 dX7_define_162 dX7_define_165 (Nat.le_of_ble_eq_true rfl) (Nat.le_of_ble_eq_true rfl)
set_option maxRecDepth 100000 in
set_option maxHeartbeats 4000000 in
theorem w_X7_define_j46 {h : zH} {ad : Nat → Nat} {G : zG} (C : zC h ad zLX 9 G cX7_define RX7 wsX7_define 8 140) {n : Nat} {res : Int32 ⊕ Nat} {s9 : zS} (hQ : zQ h ad zLX G true (res) s9 none) (v1 : Int32) (v2 : Int32) (v3 : Int32) (v4 : Int32) (v5 : Int32) (s : zS) (hm : m_X7_define_j46 n v1 v2 v3 v4 v5 s = some (res, s9)) : zV h ad zLX 9 G s 46 [(0, .ref (ad 0)), (1, .int v1), (2, .int v2), (3, .int v3), (4, .int v4), (5, .int v5)] [] := by
  rw [m_X7_define_j46] at hm
  refine z_iload C dX7_define_46 5 rfl ?_
  refine z_if_eq (tgt := 72) C dX7_define_48 (by decide) (fun c18 => ?_) (fun c18 => ?_)
  · have hm := zIt hm c18
    refine z_iconst (v := (0 : Int32)) C dX7_define_72 (by decide) ?_
    exact z_sub [0, 1, 2, 3, 4] rfl (w_X7_define_j73 C hQ  _ _ _ _ _ _ hm)
  · have hm := zIf hm c18
    refine z_iload_n C dX7_define_51 rfl 2 rfl ?_
    refine z_iconst (v := (3 : Int32)) C dX7_define_52 (by decide) ?_
    refine z_icmp_ne (tgt := 68) C dX7_define_53 (by decide) (fun c19 => ?_) (fun c19 => ?_)
    · have hm := zIf hm c19
      refine z_iconst (v := (1 : Int32)) C dX7_define_68 (by decide) ?_
      refine z_goto (tgt := 73) C dX7_define_69 (by decide) ?_
      exact z_sub [0, 1, 2, 3, 4] rfl (w_X7_define_j73 C hQ  _ _ _ _ _ _ hm)
    · have hm := zIt hm c19
      refine z_iload C dX7_define_56 4 rfl ?_
      refine z_iconst (v := (0 : Int32)) C dX7_define_58 (by decide) ?_
      refine z_sipush (v := (1000 : Int32)) C dX7_define_59 (by decide) ?_
      obtain ⟨x20, s21, q_s21, hm⟩ := zBd_of hm
      refine z_cS (vd := false) C 3 [.int v4, .int (0 : Int32), .int (1000 : Int32)] [] (c_X7_isWithin (zC_I C) (zC_st C)  q_s21) gX7_define_X7_isWithin (by decide +kernel) rfl dX7_define_62 rfl ⟨Nat.le_of_ble_eq_true rfl, Nat.le_of_ble_eq_true rfl⟩ rfl (Nat.le_of_ble_eq_true rfl) ?_
      refine z_if_eq (tgt := 72) C dX7_define_65 (by decide) (fun c22 => ?_) (fun c22 => ?_)
      · have hm := zIt hm c22
        refine z_iconst (v := (0 : Int32)) C dX7_define_72 (by decide) ?_
        exact z_sub [0, 1, 2, 3, 4] rfl (w_X7_define_j73 C hQ  _ _ _ _ _ _ hm)
      · have hm := zIf hm c22
        refine z_iconst (v := (1 : Int32)) C dX7_define_68 (by decide) ?_
        refine z_goto (tgt := 73) C dX7_define_69 (by decide) ?_
        exact z_sub [0, 1, 2, 3, 4] rfl (w_X7_define_j73 C hQ  _ _ _ _ _ _ hm)
set_option maxRecDepth 100000 in
set_option maxHeartbeats 4000000 in
theorem w_X7_define_j29 {h : zH} {ad : Nat → Nat} {G : zG} (C : zC h ad zLX 9 G cX7_define RX7 wsX7_define 8 140) {n : Nat} {res : Int32 ⊕ Nat} {s9 : zS} (hQ : zQ h ad zLX G true (res) s9 none) (v1 : Int32) (v2 : Int32) (v3 : Int32) (v4 : Int32) (v5 : Int32) (s : zS) (hm : m_X7_define_j29 n v1 v2 v3 v4 v5 s = some (res, s9)) : zV h ad zLX 9 G s 29 [(0, .ref (ad 0)), (1, .int v1), (2, .int v2), (3, .int v3), (4, .int v4), (5, .int v5)] [] := by
  rw [m_X7_define_j29] at hm
  refine z_iload C dX7_define_29 5 rfl ?_
  refine z_if_eq (tgt := 46) C dX7_define_31 (by decide) (fun c23 => ?_) (fun c23 => ?_)
  · have hm := zIt hm c23
    exact z_sub [0, 1, 2, 3, 4, 5] rfl (w_X7_define_j46 C hQ  _ _ _ _ _ _ hm)
  · have hm := zIf hm c23
    refine z_iload_n C dX7_define_34 rfl 2 rfl ?_
    obtain ⟨x24, s25, q_s25, hm⟩ := zBd_of hm
    refine z_cS (vd := false) C 1 [.int v2] [] (c_X7_takesSecond (zC_I C) (zC_st C)  q_s25) gX7_define_X7_takesSecond (by decide +kernel) rfl dX7_define_35 rfl ⟨Nat.le_of_ble_eq_true rfl, Nat.le_of_ble_eq_true rfl⟩ rfl (Nat.le_of_ble_eq_true rfl) ?_
    refine z_if_eq (tgt := 46) C dX7_define_38 (by decide) (fun c26 => ?_) (fun c26 => ?_)
    · have hm := zIt hm c26
      exact z_sub [0, 1, 2, 3, 4, 5] rfl (w_X7_define_j46 C hQ  _ _ _ _ _ _ hm)
    · have hm := zIf hm c26
      refine z_iload C dX7_define_41 4 rfl ?_
      rcases zBx_of hm with h_s28 | ⟨k_s28, q_s28, r_s28⟩
      rotate_left
      · subst r_s28
        exact z_xS (vd := true) C 1 [.int v4] [] (c_X7_checkLine (zC_I C) (zC_st C)  q_s28) hQ gX7_define_X7_checkLine (by decide +kernel) rfl dX7_define_43 rfl ⟨Nat.le_of_ble_eq_true rfl, Nat.le_of_ble_eq_true rfl⟩ rfl (Nat.le_of_ble_eq_true rfl)
      obtain ⟨x27, s28, q_s28, hm⟩ := h_s28
      refine z_cS (vd := true) C 1 [.int v4] [] (c_X7_checkLine (zC_I C) (zC_st C)  q_s28) gX7_define_X7_checkLine (by decide +kernel) rfl dX7_define_43 rfl ⟨Nat.le_of_ble_eq_true rfl, Nat.le_of_ble_eq_true rfl⟩ rfl (Nat.le_of_ble_eq_true rfl) ?_
      exact z_sub [0, 1, 2, 3, 4, 5] rfl (w_X7_define_j46 C hQ  _ _ _ _ _ _ hm)
set_option maxRecDepth 100000 in
set_option maxHeartbeats 4000000 in
theorem w_X7_define_e {h : zH} {ad : Nat → Nat} {G : zG} (C : zC h ad zLX 9 G cX7_define RX7 wsX7_define 8 140) {n : Nat} {res : Int32 ⊕ Nat} {s9 : zS} (hQ : zQ h ad zLX G true (res) s9 none) {v1 : Int32} {v2 : Int32} {v3 : Int32} {v4 : Int32} (s : zS) (hm : m_X7_define n v1 v2 v3 v4 s = some (res, s9)) : zV h ad zLX 9 G s 0 [(0, .ref (ad 0)), (1, .int v1), (2, .int v2), (3, .int v3), (4, .int v4)] [] := by
  rw [m_X7_define] at hm
  refine z_iload_n C dX7_define_0 rfl 1 rfl ?_
  rcases zBx_of hm with h_s30 | ⟨k_s30, q_s30, r_s30⟩
  rotate_left
  · subst r_s30
    exact z_xS (vd := true) C 1 [.int v1] [] (c_X7_checkLine (zC_I C) (zC_st C)  q_s30) hQ gX7_define_X7_checkLine (by decide +kernel) rfl dX7_define_1 rfl ⟨Nat.le_of_ble_eq_true rfl, Nat.le_of_ble_eq_true rfl⟩ rfl (Nat.le_of_ble_eq_true rfl)
  obtain ⟨x29, s30, q_s30, hm⟩ := h_s30
  refine z_cS (vd := true) C 1 [.int v1] [] (c_X7_checkLine (zC_I C) (zC_st C)  q_s30) gX7_define_X7_checkLine (by decide +kernel) rfl dX7_define_1 rfl ⟨Nat.le_of_ble_eq_true rfl, Nat.le_of_ble_eq_true rfl⟩ rfl (Nat.le_of_ble_eq_true rfl) ?_
  refine z_iload_n C dX7_define_4 rfl 2 rfl ?_
  refine z_iconst (v := (0 : Int32)) C dX7_define_5 (by decide) ?_
  refine z_bipush (v := (8 : Int32)) C dX7_define_6 (by decide) ?_
  obtain ⟨x31, s32, q_s32, hm⟩ := zBd_of hm
  refine z_cS (vd := false) C 3 [.int v2, .int (0 : Int32), .int (8 : Int32)] [] (c_X7_isWithin (zC_I C) (zC_st C)  q_s32) gX7_define_X7_isWithin (by decide +kernel) rfl dX7_define_8 rfl ⟨Nat.le_of_ble_eq_true rfl, Nat.le_of_ble_eq_true rfl⟩ rfl (Nat.le_of_ble_eq_true rfl) ?_
  refine z_istore (y := x31) (lv' := [(5, .int x31), (0, .ref (ad 0)), (1, .int v1), (2, .int v2), (3, .int v3), (4, .int v4)]) C dX7_define_11 (by decide) rfl rfl ?_
  refine z_iload C dX7_define_13 0 rfl ?_
  refine z_if_eq (tgt := 29) C dX7_define_15 (by decide) (fun c33 => ?_) (fun c33 => ?_)
  · have hm := zIt hm c33
    exact z_sub [1, 2, 3, 4, 5, 0] rfl (w_X7_define_j29 C hQ  _ _ _ _ _ _ hm)
  · have hm := zIf hm c33
    refine z_iload_n C dX7_define_18 rfl 3 rfl ?_
    obtain ⟨x34, s35, q_s35, hm⟩ := zBd_of hm
    refine z_cS (vd := false) C 1 [.int v2] [] (c_X7_takesFirst (zC_I C) (zC_st C)  q_s35) gX7_define_X7_takesFirst (by decide +kernel) rfl dX7_define_19 rfl ⟨Nat.le_of_ble_eq_true rfl, Nat.le_of_ble_eq_true rfl⟩ rfl (Nat.le_of_ble_eq_true rfl) ?_
    refine z_if_eq (tgt := 29) C dX7_define_22 (by decide) (fun c36 => ?_) (fun c36 => ?_)
    · have hm := zIt hm c36
      exact z_sub [1, 2, 3, 4, 5, 0] rfl (w_X7_define_j29 C hQ  _ _ _ _ _ _ hm)
    · have hm := zIf hm c36
      refine z_iload_n C dX7_define_25 rfl 4 rfl ?_
      rcases zBx_of hm with h_s38 | ⟨k_s38, q_s38, r_s38⟩
      rotate_left
      · subst r_s38
        exact z_xS (vd := true) C 1 [.int v3] [] (c_X7_checkLine (zC_I C) (zC_st C)  q_s38) hQ gX7_define_X7_checkLine (by decide +kernel) rfl dX7_define_26 rfl ⟨Nat.le_of_ble_eq_true rfl, Nat.le_of_ble_eq_true rfl⟩ rfl (Nat.le_of_ble_eq_true rfl)
      obtain ⟨x37, s38, q_s38, hm⟩ := h_s38
      refine z_cS (vd := true) C 1 [.int v3] [] (c_X7_checkLine (zC_I C) (zC_st C)  q_s38) gX7_define_X7_checkLine (by decide +kernel) rfl dX7_define_26 rfl ⟨Nat.le_of_ble_eq_true rfl, Nat.le_of_ble_eq_true rfl⟩ rfl (Nat.le_of_ble_eq_true rfl) ?_
      exact z_sub [1, 2, 3, 4, 5, 0] rfl (w_X7_define_j29 C hQ  _ _ _ _ _ _ hm)
set_option maxRecDepth 100000 in
set_option maxHeartbeats 4000000 in
theorem c_X7_define {h : zH} {ad : Nat → Nat} (hI : zI ad zLX.length) (hst : h.1.stackTraces = false) {n : Nat} {v1 : Int32} {v2 : Int32} {v3 : Int32} {v4 : Int32} {s s9 : zS} {res : Int32 ⊕ Nat} (hm : m_X7_define n v1 v2 v3 v4 s = some (res, s9)) : zMR h ad zLX true yX7_define wsX7_define 8 140 [.ref (ad 0), .int v1, .int v2, .int v3, .int v4] s (res) s9 :=
  z_start (cc := cX7_define) (nL := 9) (ret := none) (own := RX7) (by decide +kernel) rfl rfl hI hst (Nat.le_of_ble_eq_true rfl) (fun G C hQ => w_X7_define_e C hQ _ hm)
set_option maxRecDepth 100000 in
theorem eX7_answer_c103 : Cond.constant RX7 103 (1000000 : Int32) ∈ wsX7_answer := by decide +kernel
set_option maxRecDepth 100000 in
theorem eX7_answer_uX7 : ∀ w ∈ wsX70, w ∈ wsX7_answer := by decide +kernel
set_option maxRecDepth 100000 in
theorem eX7_answer_f10 : Cond.fieldLink RX7 10 RX7 (TX7 0).2.1 (TX7 0).2.2.1 ∈ wsX7_answer := by decide +kernel
set_option maxRecDepth 100000 in
set_option maxHeartbeats 4000000 in
theorem w_X7_answer_e {h : zH} {ad : Nat → Nat} {G : zG} (C : zC h ad zLX 4 G cX7_answer RX7 wsX7_answer 8 130) {n : Nat} {res : Int32 ⊕ Nat} {s9 : zS} (hQ : zQ h ad zLX G false (res) s9 (some .int)) {v1 : Int32} {v2 : Int32} (s : zS) (hm : m_X7_answer n v1 v2 s = some (res, s9)) : zV h ad zLX 4 G s 0 [(0, .ref (ad 0)), (1, .int v1), (2, .int v2)] [] := by
  rw [m_X7_answer] at hm
  refine z_iload_n C dX7_answer_0 rfl 1 rfl ?_
  rcases zBx_of hm with h_s2 | ⟨k_s2, q_s2, r_s2⟩
  rotate_left
  · subst r_s2
    exact z_xS (vd := true) C 1 [.int v1] [] (c_X7_checkLine (zC_I C) (zC_st C)  q_s2) hQ gX7_answer_X7_checkLine (by decide +kernel) rfl dX7_answer_1 rfl ⟨Nat.le_of_ble_eq_true rfl, Nat.le_of_ble_eq_true rfl⟩ rfl (Nat.le_of_ble_eq_true rfl)
  obtain ⟨x1, s2, q_s2, hm⟩ := h_s2
  refine z_cS (vd := true) C 1 [.int v1] [] (c_X7_checkLine (zC_I C) (zC_st C)  q_s2) gX7_answer_X7_checkLine (by decide +kernel) rfl dX7_answer_1 rfl ⟨Nat.le_of_ble_eq_true rfl, Nat.le_of_ble_eq_true rfl⟩ rfl (Nat.le_of_ble_eq_true rfl) ?_
  refine z_iload_n C dX7_answer_4 rfl 2 rfl ?_
  refine z_iconst (v := (0 : Int32)) C dX7_answer_5 (by decide) ?_
  refine z_ldc (v := (1000000 : Int32)) C eX7_answer_c103 dX7_answer_6 ?_
  obtain ⟨x3, s4, q_s4, hm⟩ := zBd_of hm
  refine z_cS (vd := false) C 3 [.int v2, .int (0 : Int32), .int (1000000 : Int32)] [] (c_X7_isWithin (zC_I C) (zC_st C)  q_s4) gX7_answer_X7_isWithin (by decide +kernel) rfl dX7_answer_8 rfl ⟨Nat.le_of_ble_eq_true rfl, Nat.le_of_ble_eq_true rfl⟩ rfl (Nat.le_of_ble_eq_true rfl) ?_
  rcases zBx_of hm with h_s6 | ⟨k_s6, q_s6, r_s6⟩
  rotate_left
  · subst r_s6
    exact z_xS (vd := true) C 1 [.int x3] [] (c_X7_checkArgument (zC_I C) (zC_st C)  q_s6) hQ gX7_answer_X7_checkArgument (by decide +kernel) rfl dX7_answer_11 rfl ⟨Nat.le_of_ble_eq_true rfl, Nat.le_of_ble_eq_true rfl⟩ rfl (Nat.le_of_ble_eq_true rfl)
  obtain ⟨x5, s6, q_s6, hm⟩ := h_s6
  refine z_cS (vd := true) C 1 [.int x3] [] (c_X7_checkArgument (zC_I C) (zC_st C)  q_s6) gX7_answer_X7_checkArgument (by decide +kernel) rfl dX7_answer_11 rfl ⟨Nat.le_of_ble_eq_true rfl, Nat.le_of_ble_eq_true rfl⟩ rfl (Nat.le_of_ble_eq_true rfl) ?_
  refine z_aload_n C dX7_answer_14 rfl 0 rfl ?_
  refine z_getr C kX0 vc7 eX7_answer_uX7 0 (by decide) rfl eX7_answer_f10 rfl dX7_answer_15 ?_
  refine z_iload_n C dX7_answer_18 rfl 1 rfl ?_
  obtain ⟨x7, s8, q_s8, hm⟩ := zBd_of hm
  refine z_cV (vd := false) (Cn := RX5) (k := 1) C 1 [.int v1] [] (c_X5_given (zC_I C) (zC_st C)  q_s8) gX7_answer_X5_given (by decide +kernel) kX1 vc5 rfl rfl dX7_answer_19 rfl ⟨Nat.le_of_ble_eq_true rfl, Nat.le_of_ble_eq_true rfl⟩ rfl (Nat.le_of_ble_eq_true rfl) ?_
  refine z_istore_n (y := x7) (lv' := [(3, .int x7), (0, .ref (ad 0)), (1, .int v1), (2, .int v2)]) C dX7_answer_22 rfl (by decide) rfl rfl ?_
  refine z_aload_n C dX7_answer_23 rfl 1 rfl ?_
  refine z_getr C kX0 vc7 eX7_answer_uX7 0 (by decide) rfl eX7_answer_f10 rfl dX7_answer_24 ?_
  refine z_iload_n C dX7_answer_27 rfl 2 rfl ?_
  refine z_iload_n C dX7_answer_28 rfl 3 rfl ?_
  obtain ⟨x9, s10, q_s10, hm⟩ := zBd_of hm
  refine z_cV (vd := true) (Cn := RX5) (k := 1) C 2 [.int v1, .int v2] [] (c_X5_give (zC_I C) (zC_st C)  q_s10) gX7_answer_X5_give (by decide +kernel) kX1 vc5 rfl rfl dX7_answer_29 rfl ⟨Nat.le_of_ble_eq_true rfl, Nat.le_of_ble_eq_true rfl⟩ rfl (Nat.le_of_ble_eq_true rfl) ?_
  refine z_iload_n C dX7_answer_32 rfl 0 rfl ?_
  exact z_iret0 C hQ (zRx_of hm).1 (zRx_of hm).2 dX7_answer_33
set_option maxRecDepth 100000 in
set_option maxHeartbeats 4000000 in
theorem c_X7_answer {h : zH} {ad : Nat → Nat} (hI : zI ad zLX.length) (hst : h.1.stackTraces = false) {n : Nat} {v1 : Int32} {v2 : Int32} {s s9 : zS} {res : Int32 ⊕ Nat} (hm : m_X7_answer n v1 v2 s = some (res, s9)) : zMR h ad zLX false yX7_answer wsX7_answer 8 130 [.ref (ad 0), .int v1, .int v2] s (res) s9 :=
  z_start (cc := cX7_answer) (nL := 4) (ret := (some .int)) (own := RX7) (by decide +kernel) rfl rfl hI hst (Nat.le_of_ble_eq_true rfl) (fun G C hQ => w_X7_answer_e C hQ _ hm)
set_option maxRecDepth 100000 in
theorem eX7_kindOf_uX7 : ∀ w ∈ wsX70, w ∈ wsX7_kindOf := by decide +kernel
set_option maxRecDepth 100000 in
theorem eX7_kindOf_f10 : Cond.fieldLink RX7 10 RX7 (TX7 0).2.1 (TX7 0).2.2.1 ∈ wsX7_kindOf := by decide +kernel
set_option maxRecDepth 100000 in
set_option maxHeartbeats 4000000 in
theorem w_X7_kindOf_e {h : zH} {ad : Nat → Nat} {G : zG} (C : zC h ad zLX 2 G cX7_kindOf RX7 wsX7_kindOf 8 130) {n : Nat} {res : Int32 ⊕ Nat} {s9 : zS} (hQ : zQ h ad zLX G false (res) s9 (some .int)) {v1 : Int32} (s : zS) (hm : m_X7_kindOf n v1 s = some (res, s9)) : zV h ad zLX 2 G s 0 [(0, .ref (ad 0)), (1, .int v1)] [] := by
  rw [m_X7_kindOf] at hm
  refine z_iload_n C dX7_kindOf_0 rfl 1 rfl ?_
  rcases zBx_of hm with h_s2 | ⟨k_s2, q_s2, r_s2⟩
  rotate_left
  · subst r_s2
    exact z_xS (vd := true) C 1 [.int v1] [] (c_X7_checkLine (zC_I C) (zC_st C)  q_s2) hQ gX7_kindOf_X7_checkLine (by decide +kernel) rfl dX7_kindOf_1 rfl ⟨Nat.le_of_ble_eq_true rfl, Nat.le_of_ble_eq_true rfl⟩ rfl (Nat.le_of_ble_eq_true rfl)
  obtain ⟨x1, s2, q_s2, hm⟩ := h_s2
  refine z_cS (vd := true) C 1 [.int v1] [] (c_X7_checkLine (zC_I C) (zC_st C)  q_s2) gX7_kindOf_X7_checkLine (by decide +kernel) rfl dX7_kindOf_1 rfl ⟨Nat.le_of_ble_eq_true rfl, Nat.le_of_ble_eq_true rfl⟩ rfl (Nat.le_of_ble_eq_true rfl) ?_
  refine z_aload_n C dX7_kindOf_4 rfl 0 rfl ?_
  refine z_getr C kX0 vc7 eX7_kindOf_uX7 0 (by decide) rfl eX7_kindOf_f10 rfl dX7_kindOf_5 ?_
  refine z_iload_n C dX7_kindOf_8 rfl 1 rfl ?_
  obtain ⟨x3, s4, q_s4, hm⟩ := zBd_of hm
  refine z_cV (vd := false) (Cn := RX5) (k := 1) C 1 [.int v1] [] (c_X5_kind (zC_I C) (zC_st C)  q_s4) gX7_kindOf_X5_kind (by decide +kernel) kX1 vc5 rfl rfl dX7_kindOf_9 rfl ⟨Nat.le_of_ble_eq_true rfl, Nat.le_of_ble_eq_true rfl⟩ rfl (Nat.le_of_ble_eq_true rfl) ?_
  exact z_iret0 C hQ (zRx_of hm).1 (zRx_of hm).2 dX7_kindOf_12
set_option maxRecDepth 100000 in
set_option maxHeartbeats 4000000 in
theorem c_X7_kindOf {h : zH} {ad : Nat → Nat} (hI : zI ad zLX.length) (hst : h.1.stackTraces = false) {n : Nat} {v1 : Int32} {s s9 : zS} {res : Int32 ⊕ Nat} (hm : m_X7_kindOf n v1 s = some (res, s9)) : zMR h ad zLX false yX7_kindOf wsX7_kindOf 8 130 [.ref (ad 0), .int v1] s (res) s9 :=
  z_start (cc := cX7_kindOf) (nL := 2) (ret := (some .int)) (own := RX7) (by decide +kernel) rfl rfl hI hst (Nat.le_of_ble_eq_true rfl) (fun G C hQ => w_X7_kindOf_e C hQ _ hm)
set_option maxRecDepth 100000 in
theorem eX7_value_uX7 : ∀ w ∈ wsX70, w ∈ wsX7_value := by decide +kernel
set_option maxRecDepth 100000 in
theorem eX7_value_f49 : Cond.fieldLink RX7 49 RX7 (TX7 5).2.1 (TX7 5).2.2.1 ∈ wsX7_value := by decide +kernel
set_option maxRecDepth 100000 in
set_option maxHeartbeats 4000000 in
theorem w_X7_value_e {h : zH} {ad : Nat → Nat} {G : zG} (C : zC h ad zLX 2 G cX7_value RX7 wsX7_value 8 163) {n : Nat} {res : Int32 ⊕ Nat} {s9 : zS} (hQ : zQ h ad zLX G false (res) s9 (some .int)) {v1 : Int32} (s : zS) (hm : m_X7_value n v1 s = some (res, s9)) : zV h ad zLX 2 G s 0 [(0, .ref (ad 0)), (1, .int v1)] [] := by
  rw [m_X7_value] at hm
  refine z_iload_n C dX7_value_0 rfl 1 rfl ?_
  rcases zBx_of hm with h_s2 | ⟨k_s2, q_s2, r_s2⟩
  rotate_left
  · subst r_s2
    exact z_xS (vd := true) C 1 [.int v1] [] (c_X7_checkLine (zC_I C) (zC_st C)  q_s2) hQ gX7_value_X7_checkLine (by decide +kernel) rfl dX7_value_1 rfl ⟨Nat.le_of_ble_eq_true rfl, Nat.le_of_ble_eq_true rfl⟩ rfl (Nat.le_of_ble_eq_true rfl)
  obtain ⟨x1, s2, q_s2, hm⟩ := h_s2
  refine z_cS (vd := true) C 1 [.int v1] [] (c_X7_checkLine (zC_I C) (zC_st C)  q_s2) gX7_value_X7_checkLine (by decide +kernel) rfl dX7_value_1 rfl ⟨Nat.le_of_ble_eq_true rfl, Nat.le_of_ble_eq_true rfl⟩ rfl (Nat.le_of_ble_eq_true rfl) ?_
  refine z_aload_n C dX7_value_4 rfl 0 rfl ?_
  refine z_getr C kX0 vc7 eX7_value_uX7 5 (by decide) rfl eX7_value_f49 rfl dX7_value_5 ?_
  refine z_iconst (v := (-1 : Int32)) C dX7_value_8 (by decide) ?_
  obtain ⟨x3, s4, q_s4, hm⟩ := zBd_of hm
  refine z_cV (vd := true) (Cn := RX6) (k := 21) C 1 [.int (-1 : Int32)] [] (c_X6_workOut (zC_I C) (zC_st C)  q_s4) gX7_value_X6_workOut (by decide +kernel) kX21 vc6 rfl rfl dX7_value_9 rfl ⟨Nat.le_of_ble_eq_true rfl, Nat.le_of_ble_eq_true rfl⟩ rfl (Nat.le_of_ble_eq_true rfl) ?_
  refine z_aload_n C dX7_value_12 rfl 0 rfl ?_
  refine z_getr C kX0 vc7 eX7_value_uX7 5 (by decide) rfl eX7_value_f49 rfl dX7_value_13 ?_
  refine z_iload_n C dX7_value_16 rfl 1 rfl ?_
  obtain ⟨x5, s6, q_s6, hm⟩ := zBd_of hm
  refine z_cV (vd := false) (Cn := RX6) (k := 21) C 1 [.int v1] [] (c_X6_of (zC_I C) (zC_st C)  q_s6) gX7_value_X6_of (by decide +kernel) kX21 vc6 rfl rfl dX7_value_17 rfl ⟨Nat.le_of_ble_eq_true rfl, Nat.le_of_ble_eq_true rfl⟩ rfl (Nat.le_of_ble_eq_true rfl) ?_
  exact z_iret0 C hQ (zRx_of hm).1 (zRx_of hm).2 dX7_value_20
set_option maxRecDepth 100000 in
set_option maxHeartbeats 4000000 in
theorem c_X7_value {h : zH} {ad : Nat → Nat} (hI : zI ad zLX.length) (hst : h.1.stackTraces = false) {n : Nat} {v1 : Int32} {s s9 : zS} {res : Int32 ⊕ Nat} (hm : m_X7_value n v1 s = some (res, s9)) : zMR h ad zLX false yX7_value wsX7_value 8 163 [.ref (ad 0), .int v1] s (res) s9 :=
  z_start (cc := cX7_value) (nL := 2) (ret := (some .int)) (own := RX7) (by decide +kernel) rfl rfl hI hst (Nat.le_of_ble_eq_true rfl) (fun G C hQ => w_X7_value_e C hQ _ hm)
theorem eX7_checkState_at : ∀ w ∈ (vx_at0 RX7 102 "java/lang/IllegalStateException" ["java/lang/RuntimeException", "java/lang/Exception"]).filter goodWord, w ∈ wsX7_checkState := fun w hw => List.mem_cons_of_mem _ (List.mem_append_right _ hw)
set_option maxRecDepth 100000 in
theorem eX7_checkState_go : ∀ w ∈ Cond.classLink RX7 100 "java/lang/IllegalStateException" :: Cond.initialized "java/lang/IllegalStateException" :: vx_at0 RX7 102 "java/lang/IllegalStateException" ["java/lang/RuntimeException", "java/lang/Exception"], vx_ot w = true := by decide +kernel
set_option maxRecDepth 100000 in
theorem eX7_checkState_ba : ∀ w ∈ (vx_at0 RX7 102 "java/lang/IllegalStateException" ["java/lang/RuntimeException", "java/lang/Exception"]).filter (fun w => !goodWord w), w ∈ zBl "java/lang/IllegalStateException" := by decide +kernel
set_option maxRecDepth 100000 in
theorem eX7_checkState_k100 : Cond.classLink RX7 100 "java/lang/IllegalStateException" ∈ wsX7_checkState := by decide +kernel
set_option maxRecDepth 100000 in
theorem eX7_checkState_i100 : Cond.initialized "java/lang/IllegalStateException" ∈ wsX7_checkState := by decide +kernel
set_option maxRecDepth 100000 in
set_option maxHeartbeats 4000000 in
theorem w_X7_checkState_e {h : zH} {ad : Nat → Nat} {G : zG} (C : zC h ad zLX 1 G cX7_checkState RX7 wsX7_checkState 6 90) {n : Nat} {res : Int32 ⊕ Nat} {s9 : zS} (hQ : zQ h ad zLX G true (res) s9 none) {v0 : Int32} (s : zS) (hm : m_X7_checkState n v0 s = some (res, s9)) : zV h ad zLX 1 G s 0 [(0, .int v0)] [] := by
  rw [m_X7_checkState] at hm
  refine z_iload_n C dX7_checkState_0 rfl 0 rfl ?_
  refine z_if_ne (tgt := 12) C dX7_checkState_1 (by decide) (fun c1 => ?_) (fun c1 => ?_)
  · have hm := zIf hm c1
    exact z_vret0 C hQ (zRx_of hm).1 (zRx_of hm).2 dX7_checkState_12
  · have hm := zIt hm c1
    obtain ⟨h1, h2⟩ := zTx_of hm
    subst h1
    subst h2
    exact z_throw C hQ rfl (by decide +kernel) (by decide +kernel) eX7_checkState_k100 eX7_checkState_i100 eX7_checkState_at eX7_checkState_ba eX7_checkState_go dX7_checkState_4 dX7_checkState_7 dX7_checkState_8 dX7_checkState_11 (Nat.le_of_ble_eq_true rfl) (Nat.le_of_ble_eq_true rfl)
set_option maxRecDepth 100000 in
set_option maxHeartbeats 4000000 in
theorem c_X7_checkState {h : zH} {ad : Nat → Nat} (hI : zI ad zLX.length) (hst : h.1.stackTraces = false) {n : Nat} {v0 : Int32} {s s9 : zS} {res : Int32 ⊕ Nat} (hm : m_X7_checkState n v0 s = some (res, s9)) : zMR h ad zLX true yX7_checkState wsX7_checkState 6 90 [.int v0] s (res) s9 :=
  z_start (cc := cX7_checkState) (nL := 1) (ret := none) (own := RX7) (by decide +kernel) rfl rfl hI hst (Nat.le_of_ble_eq_true rfl) (fun G C hQ => w_X7_checkState_e C hQ _ hm)
set_option maxRecDepth 100000 in
theorem eX7_boundFor_uX7 : ∀ w ∈ wsX70, w ∈ wsX7_boundFor := by decide +kernel
set_option maxRecDepth 100000 in
theorem eX7_boundFor_f49 : Cond.fieldLink RX7 49 RX7 (TX7 5).2.1 (TX7 5).2.2.1 ∈ wsX7_boundFor := by decide +kernel
set_option maxRecDepth 100000 in
theorem eX7_boundFor_f19 : Cond.fieldLink RX7 19 RX7 (TX7 1).2.1 (TX7 1).2.2.1 ∈ wsX7_boundFor := by decide +kernel
set_option maxRecDepth 100000 in
theorem eX7_boundFor_f10 : Cond.fieldLink RX7 10 RX7 (TX7 0).2.1 (TX7 0).2.2.1 ∈ wsX7_boundFor := by decide +kernel
set_option maxRecDepth 100000 in
theorem eX7_boundFor_c117 : Cond.constant RX7 117 (1000000000 : Int32) ∈ wsX7_boundFor := by decide +kernel
set_option maxRecDepth 100000 in
set_option maxHeartbeats 4000000 in
theorem w_X7_boundFor_j32 {h : zH} {ad : Nat → Nat} {G : zG} (C : zC h ad zLX 3 G cX7_boundFor RX7 wsX7_boundFor 8 163) {n : Nat} {res : Int32 ⊕ Nat} {s9 : zS} (hQ : zQ h ad zLX G false (res) s9 (some .int)) (v1 : Int32) (v2 : Int32) (t0 : Int32) (s : zS) (hm : m_X7_boundFor_j32 n v1 v2 t0 s = some (res, s9)) : zV h ad zLX 3 G s 32 [(0, .ref (ad 0)), (1, .int v1), (2, .int v2)] [.int t0] := by
  rw [m_X7_boundFor_j32] at hm
  rcases zBx_of hm with h_s2 | ⟨k_s2, q_s2, r_s2⟩
  rotate_left
  · subst r_s2
    exact z_xS (vd := true) C 1 [.int t0] [] (c_X7_checkState (zC_I C) (zC_st C)  q_s2) hQ gX7_boundFor_X7_checkState (by decide +kernel) rfl dX7_boundFor_32 rfl ⟨Nat.le_of_ble_eq_true rfl, Nat.le_of_ble_eq_true rfl⟩ rfl (Nat.le_of_ble_eq_true rfl)
  obtain ⟨x1, s2, q_s2, hm⟩ := h_s2
  refine z_cS (vd := true) C 1 [.int t0] [] (c_X7_checkState (zC_I C) (zC_st C)  q_s2) gX7_boundFor_X7_checkState (by decide +kernel) rfl dX7_boundFor_32 rfl ⟨Nat.le_of_ble_eq_true rfl, Nat.le_of_ble_eq_true rfl⟩ rfl (Nat.le_of_ble_eq_true rfl) ?_
  refine z_aload_n C dX7_boundFor_35 rfl 0 rfl ?_
  refine z_getr C kX0 vc7 eX7_boundFor_uX7 5 (by decide) rfl eX7_boundFor_f49 rfl dX7_boundFor_36 ?_
  refine z_iconst (v := (-1 : Int32)) C dX7_boundFor_39 (by decide) ?_
  obtain ⟨x3, s4, q_s4, hm⟩ := zBd_of hm
  refine z_cV (vd := true) (Cn := RX6) (k := 21) C 1 [.int (-1 : Int32)] [] (c_X6_workOut (zC_I C) (zC_st C)  q_s4) gX7_boundFor_X6_workOut (by decide +kernel) kX21 vc6 rfl rfl dX7_boundFor_40 rfl ⟨Nat.le_of_ble_eq_true rfl, Nat.le_of_ble_eq_true rfl⟩ rfl (Nat.le_of_ble_eq_true rfl) ?_
  refine z_aload_n C dX7_boundFor_43 rfl 0 rfl ?_
  refine z_getr C kX0 vc7 eX7_boundFor_uX7 5 (by decide) rfl eX7_boundFor_f49 rfl dX7_boundFor_44 ?_
  refine z_aload_n C dX7_boundFor_47 rfl 0 rfl ?_
  refine z_getr C kX0 vc7 eX7_boundFor_uX7 1 (by decide) rfl eX7_boundFor_f19 rfl dX7_boundFor_48 ?_
  refine z_iload_n C dX7_boundFor_51 rfl 1 rfl ?_
  obtain ⟨x5, s6, q_s6, hm⟩ := zBd_of hm
  refine z_cV (vd := false) (Cn := RX4) (k := 6) C 1 [.int v1] [.ref (ad 21)] (c_X4_placeOf (zC_I C) (zC_st C)  q_s6) gX7_boundFor_X4_placeOf (by decide +kernel) kX6 vc4 rfl rfl dX7_boundFor_52 rfl ⟨Nat.le_of_ble_eq_true rfl, Nat.le_of_ble_eq_true rfl⟩ rfl (Nat.le_of_ble_eq_true rfl) ?_
  refine z_iload_n C dX7_boundFor_55 rfl 2 rfl ?_
  obtain ⟨x7, s8, q_s8, hm⟩ := zBd_of hm
  refine z_cV (vd := true) (Cn := RX6) (k := 21) C 2 [.int x5, .int v2] [] (c_X6_suppose (zC_I C) (zC_st C)  q_s8) gX7_boundFor_X6_suppose (by decide +kernel) kX21 vc6 rfl rfl dX7_boundFor_56 rfl ⟨Nat.le_of_ble_eq_true rfl, Nat.le_of_ble_eq_true rfl⟩ rfl (Nat.le_of_ble_eq_true rfl) ?_
  refine z_aload_n C dX7_boundFor_59 rfl 0 rfl ?_
  refine z_getr C kX0 vc7 eX7_boundFor_uX7 5 (by decide) rfl eX7_boundFor_f49 rfl dX7_boundFor_60 ?_
  refine z_aload_n C dX7_boundFor_63 rfl 0 rfl ?_
  refine z_getr C kX0 vc7 eX7_boundFor_uX7 0 (by decide) rfl eX7_boundFor_f10 rfl dX7_boundFor_64 ?_
  refine z_iload_n C dX7_boundFor_67 rfl 1 rfl ?_
  obtain ⟨x9, s10, q_s10, hm⟩ := zBd_of hm
  refine z_cV (vd := false) (Cn := RX5) (k := 1) C 1 [.int v1] [.ref (ad 21)] (c_X5_second (zC_I C) (zC_st C)  q_s10) gX7_boundFor_X5_second (by decide +kernel) kX1 vc5 rfl rfl dX7_boundFor_68 rfl ⟨Nat.le_of_ble_eq_true rfl, Nat.le_of_ble_eq_true rfl⟩ rfl (Nat.le_of_ble_eq_true rfl) ?_
  obtain ⟨x11, s12, q_s12, hm⟩ := zBd_of hm
  refine z_cV (vd := false) (Cn := RX6) (k := 21) C 1 [.int x9] [] (c_X6_of (zC_I C) (zC_st C)  q_s12) gX7_boundFor_X6_of (by decide +kernel) kX21 vc6 rfl rfl dX7_boundFor_71 rfl ⟨Nat.le_of_ble_eq_true rfl, Nat.le_of_ble_eq_true rfl⟩ rfl (Nat.le_of_ble_eq_true rfl) ?_
  exact z_iret0 C hQ (zRx_of hm).1 (zRx_of hm).2 dX7_boundFor_74
set_option maxRecDepth 100000 in
set_option maxHeartbeats 4000000 in
theorem w_X7_boundFor_e {h : zH} {ad : Nat → Nat} {G : zG} (C : zC h ad zLX 3 G cX7_boundFor RX7 wsX7_boundFor 8 163) {n : Nat} {res : Int32 ⊕ Nat} {s9 : zS} (hQ : zQ h ad zLX G false (res) s9 (some .int)) {v1 : Int32} {v2 : Int32} (s : zS) (hm : m_X7_boundFor n v1 v2 s = some (res, s9)) : zV h ad zLX 3 G s 0 [(0, .ref (ad 0)), (1, .int v1), (2, .int v2)] [] := by
  rw [m_X7_boundFor] at hm
  refine z_iload_n C dX7_boundFor_0 rfl 1 rfl ?_
  rcases zBx_of hm with h_s14 | ⟨k_s14, q_s14, r_s14⟩
  rotate_left
  · subst r_s14
    exact z_xS (vd := true) C 1 [.int v1] [] (c_X7_checkLine (zC_I C) (zC_st C)  q_s14) hQ gX7_boundFor_X7_checkLine (by decide +kernel) rfl dX7_boundFor_1 rfl ⟨Nat.le_of_ble_eq_true rfl, Nat.le_of_ble_eq_true rfl⟩ rfl (Nat.le_of_ble_eq_true rfl)
  obtain ⟨x13, s14, q_s14, hm⟩ := h_s14
  refine z_cS (vd := true) C 1 [.int v1] [] (c_X7_checkLine (zC_I C) (zC_st C)  q_s14) gX7_boundFor_X7_checkLine (by decide +kernel) rfl dX7_boundFor_1 rfl ⟨Nat.le_of_ble_eq_true rfl, Nat.le_of_ble_eq_true rfl⟩ rfl (Nat.le_of_ble_eq_true rfl) ?_
  refine z_iload_n C dX7_boundFor_4 rfl 2 rfl ?_
  refine z_iconst (v := (0 : Int32)) C dX7_boundFor_5 (by decide) ?_
  refine z_ldc (v := (1000000000 : Int32)) C eX7_boundFor_c117 dX7_boundFor_6 ?_
  obtain ⟨x15, s16, q_s16, hm⟩ := zBd_of hm
  refine z_cS (vd := false) C 3 [.int v2, .int (0 : Int32), .int (1000000000 : Int32)] [] (c_X7_isWithin (zC_I C) (zC_st C)  q_s16) gX7_boundFor_X7_isWithin (by decide +kernel) rfl dX7_boundFor_8 rfl ⟨Nat.le_of_ble_eq_true rfl, Nat.le_of_ble_eq_true rfl⟩ rfl (Nat.le_of_ble_eq_true rfl) ?_
  rcases zBx_of hm with h_s18 | ⟨k_s18, q_s18, r_s18⟩
  rotate_left
  · subst r_s18
    exact z_xS (vd := true) C 1 [.int x15] [] (c_X7_checkArgument (zC_I C) (zC_st C)  q_s18) hQ gX7_boundFor_X7_checkArgument (by decide +kernel) rfl dX7_boundFor_11 rfl ⟨Nat.le_of_ble_eq_true rfl, Nat.le_of_ble_eq_true rfl⟩ rfl (Nat.le_of_ble_eq_true rfl)
  obtain ⟨x17, s18, q_s18, hm⟩ := h_s18
  refine z_cS (vd := true) C 1 [.int x15] [] (c_X7_checkArgument (zC_I C) (zC_st C)  q_s18) gX7_boundFor_X7_checkArgument (by decide +kernel) rfl dX7_boundFor_11 rfl ⟨Nat.le_of_ble_eq_true rfl, Nat.le_of_ble_eq_true rfl⟩ rfl (Nat.le_of_ble_eq_true rfl) ?_
  refine z_aload_n C dX7_boundFor_14 rfl 0 rfl ?_
  refine z_getr C kX0 vc7 eX7_boundFor_uX7 0 (by decide) rfl eX7_boundFor_f10 rfl dX7_boundFor_15 ?_
  refine z_iload_n C dX7_boundFor_18 rfl 1 rfl ?_
  obtain ⟨x19, s20, q_s20, hm⟩ := zBd_of hm
  refine z_cV (vd := false) (Cn := RX5) (k := 1) C 1 [.int v1] [] (c_X5_kind (zC_I C) (zC_st C)  q_s20) gX7_boundFor_X5_kind (by decide +kernel) kX1 vc5 rfl rfl dX7_boundFor_19 rfl ⟨Nat.le_of_ble_eq_true rfl, Nat.le_of_ble_eq_true rfl⟩ rfl (Nat.le_of_ble_eq_true rfl) ?_
  refine z_bipush (v := (8 : Int32)) C dX7_boundFor_22 (by decide) ?_
  refine z_icmp_ne (tgt := 31) C dX7_boundFor_24 (by decide) (fun c21 => ?_) (fun c21 => ?_)
  · have hm := zIf hm c21
    refine z_iconst (v := (0 : Int32)) C dX7_boundFor_31 (by decide) ?_
    exact z_sub [0, 1, 2] rfl (w_X7_boundFor_j32 C hQ  _ _ _ _ hm)
  · have hm := zIt hm c21
    refine z_iconst (v := (1 : Int32)) C dX7_boundFor_27 (by decide) ?_
    refine z_goto (tgt := 32) C dX7_boundFor_28 (by decide) ?_
    exact z_sub [0, 1, 2] rfl (w_X7_boundFor_j32 C hQ  _ _ _ _ hm)
set_option maxRecDepth 100000 in
set_option maxHeartbeats 4000000 in
theorem c_X7_boundFor {h : zH} {ad : Nat → Nat} (hI : zI ad zLX.length) (hst : h.1.stackTraces = false) {n : Nat} {v1 : Int32} {v2 : Int32} {s s9 : zS} {res : Int32 ⊕ Nat} (hm : m_X7_boundFor n v1 v2 s = some (res, s9)) : zMR h ad zLX false yX7_boundFor wsX7_boundFor 8 163 [.ref (ad 0), .int v1, .int v2] s (res) s9 :=
  z_start (cc := cX7_boundFor) (nL := 3) (ret := (some .int)) (own := RX7) (by decide +kernel) rfl rfl hI hst (Nat.le_of_ble_eq_true rfl) (fun G C hQ => w_X7_boundFor_e C hQ _ hm)
set_option maxRecDepth 100000 in
theorem eX7_dependsOn_uX7 : ∀ w ∈ wsX70, w ∈ wsX7_dependsOn := by decide +kernel
set_option maxRecDepth 100000 in
theorem eX7_dependsOn_f19 : Cond.fieldLink RX7 19 RX7 (TX7 1).2.1 (TX7 1).2.2.1 ∈ wsX7_dependsOn := by decide +kernel
set_option maxRecDepth 100000 in
set_option maxHeartbeats 4000000 in
theorem w_X7_dependsOn_e {h : zH} {ad : Nat → Nat} {G : zG} (C : zC h ad zLX 3 G cX7_dependsOn RX7 wsX7_dependsOn 8 130) {n : Nat} {res : Int32 ⊕ Nat} {s9 : zS} (hQ : zQ h ad zLX G false (res) s9 (some .boolean)) {v1 : Int32} {v2 : Int32} (s : zS) (hm : m_X7_dependsOn n v1 v2 s = some (res, s9)) : zV h ad zLX 3 G s 0 [(0, .ref (ad 0)), (1, .int v1), (2, .int v2)] [] := by
  rw [m_X7_dependsOn] at hm
  refine z_iload_n C dX7_dependsOn_0 rfl 1 rfl ?_
  rcases zBx_of hm with h_s2 | ⟨k_s2, q_s2, r_s2⟩
  rotate_left
  · subst r_s2
    exact z_xS (vd := true) C 1 [.int v1] [] (c_X7_checkLine (zC_I C) (zC_st C)  q_s2) hQ gX7_dependsOn_X7_checkLine (by decide +kernel) rfl dX7_dependsOn_1 rfl ⟨Nat.le_of_ble_eq_true rfl, Nat.le_of_ble_eq_true rfl⟩ rfl (Nat.le_of_ble_eq_true rfl)
  obtain ⟨x1, s2, q_s2, hm⟩ := h_s2
  refine z_cS (vd := true) C 1 [.int v1] [] (c_X7_checkLine (zC_I C) (zC_st C)  q_s2) gX7_dependsOn_X7_checkLine (by decide +kernel) rfl dX7_dependsOn_1 rfl ⟨Nat.le_of_ble_eq_true rfl, Nat.le_of_ble_eq_true rfl⟩ rfl (Nat.le_of_ble_eq_true rfl) ?_
  refine z_iload_n C dX7_dependsOn_4 rfl 2 rfl ?_
  rcases zBx_of hm with h_s4 | ⟨k_s4, q_s4, r_s4⟩
  rotate_left
  · subst r_s4
    exact z_xS (vd := true) C 1 [.int v2] [] (c_X7_checkLine (zC_I C) (zC_st C)  q_s4) hQ gX7_dependsOn_X7_checkLine (by decide +kernel) rfl dX7_dependsOn_5 rfl ⟨Nat.le_of_ble_eq_true rfl, Nat.le_of_ble_eq_true rfl⟩ rfl (Nat.le_of_ble_eq_true rfl)
  obtain ⟨x3, s4, q_s4, hm⟩ := h_s4
  refine z_cS (vd := true) C 1 [.int v2] [] (c_X7_checkLine (zC_I C) (zC_st C)  q_s4) gX7_dependsOn_X7_checkLine (by decide +kernel) rfl dX7_dependsOn_5 rfl ⟨Nat.le_of_ble_eq_true rfl, Nat.le_of_ble_eq_true rfl⟩ rfl (Nat.le_of_ble_eq_true rfl) ?_
  refine z_aload_n C dX7_dependsOn_8 rfl 0 rfl ?_
  refine z_getr C kX0 vc7 eX7_dependsOn_uX7 1 (by decide) rfl eX7_dependsOn_f19 rfl dX7_dependsOn_9 ?_
  refine z_iload_n C dX7_dependsOn_12 rfl 1 rfl ?_
  obtain ⟨x5, s6, q_s6, hm⟩ := zBd_of hm
  refine z_cV (vd := false) (Cn := RX4) (k := 6) C 1 [.int v1] [] (c_X4_reach (zC_I C) (zC_st C)  q_s6) gX7_dependsOn_X4_reach (by decide +kernel) kX6 vc4 rfl rfl dX7_dependsOn_13 rfl ⟨Nat.le_of_ble_eq_true rfl, Nat.le_of_ble_eq_true rfl⟩ rfl (Nat.le_of_ble_eq_true rfl) ?_
  refine z_iload_n C dX7_dependsOn_16 rfl 2 rfl ?_
  obtain ⟨x7, s8, q_s8, hm⟩ := zBd_of hm
  refine z_cS (vd := false) C 2 [.int x5, .int v2] [] (c_X7_has (zC_I C) (zC_st C)  q_s8) gX7_dependsOn_X7_has (by decide +kernel) rfl dX7_dependsOn_17 rfl ⟨Nat.le_of_ble_eq_true rfl, Nat.le_of_ble_eq_true rfl⟩ rfl (Nat.le_of_ble_eq_true rfl) ?_
  obtain ⟨g9, hm⟩ := zGd_of hm
  exact z_zret0 C hQ (zRx_of hm).1 (zRx_of hm).2 g9 dX7_dependsOn_20
set_option maxRecDepth 100000 in
set_option maxHeartbeats 4000000 in
theorem c_X7_dependsOn {h : zH} {ad : Nat → Nat} (hI : zI ad zLX.length) (hst : h.1.stackTraces = false) {n : Nat} {v1 : Int32} {v2 : Int32} {s s9 : zS} {res : Int32 ⊕ Nat} (hm : m_X7_dependsOn n v1 v2 s = some (res, s9)) : zMR h ad zLX false yX7_dependsOn wsX7_dependsOn 8 130 [.ref (ad 0), .int v1, .int v2] s (res) s9 :=
  z_start (cc := cX7_dependsOn) (nL := 3) (ret := (some .boolean)) (own := RX7) (by decide +kernel) rfl rfl hI hst (Nat.le_of_ble_eq_true rfl) (fun G C hQ => w_X7_dependsOn_e C hQ _ hm)
set_option maxRecDepth 100000 in
theorem eX7_influence_uX7 : ∀ w ∈ wsX70, w ∈ wsX7_influence := by decide +kernel
set_option maxRecDepth 100000 in
theorem eX7_influence_f49 : Cond.fieldLink RX7 49 RX7 (TX7 5).2.1 (TX7 5).2.2.1 ∈ wsX7_influence := by decide +kernel
set_option maxRecDepth 100000 in
theorem eX7_influence_f53 : Cond.fieldLink RX7 53 RX7 (TX7 6).2.1 (TX7 6).2.2.1 ∈ wsX7_influence := by decide +kernel
set_option maxRecDepth 100000 in
theorem eX7_influence_f10 : Cond.fieldLink RX7 10 RX7 (TX7 0).2.1 (TX7 0).2.2.1 ∈ wsX7_influence := by decide +kernel
set_option maxRecDepth 100000 in
set_option maxHeartbeats 4000000 in
theorem w_X7_influence_j37 {h : zH} {ad : Nat → Nat} {G : zG} (C : zC h ad zLX 4 G cX7_influence RX7 wsX7_influence 8 163) {n : Nat} {res : Int32 ⊕ Nat} {s9 : zS} (hQ : zQ h ad zLX G false (res) s9 (some .int)) : ∀ (f : Nat) (v2 : Int32) (v3 : Int32) (s : zS), m_X7_influence_j37 n f v2 v3 s = some (res, s9) → zV h ad zLX 4 G s 37 [(0, .ref (ad 0)), (2, .int v2), (3, .int v3)] [] := by
  intro f
  induction f with
  | zero => intro v2 v3 s hm; simp [m_X7_influence_j37] at hm
  | succ f ih =>
    intro v2 v3 s hm
    rw [m_X7_influence_j37] at hm
    refine z_iload_n C dX7_influence_37 rfl 2 rfl ?_
    refine z_bipush (v := (16 : Int32)) C dX7_influence_38 (by decide) ?_
    refine z_icmp_ge (tgt := 71) C dX7_influence_40 (by decide) (fun c1 => ?_) (fun c1 => ?_)
    · have hm := zIt hm c1
      refine z_iload_n C dX7_influence_71 rfl 1 rfl ?_
      exact z_iret0 C hQ (zRx_of hm).1 (zRx_of hm).2 dX7_influence_72
    · have hm := zIf hm c1
      refine z_aload_n C dX7_influence_43 rfl 0 rfl ?_
      refine z_getr C kX0 vc7 eX7_influence_uX7 5 (by decide) rfl eX7_influence_f49 rfl dX7_influence_44 ?_
      refine z_iload_n C dX7_influence_47 rfl 2 rfl ?_
      obtain ⟨x2, s3, q_s3, hm⟩ := zBd_of hm
      refine z_cV (vd := false) (Cn := RX6) (k := 21) C 1 [.int v3] [] (c_X6_of (zC_I C) (zC_st C)  q_s3) gX7_influence_X6_of (by decide +kernel) kX21 vc6 rfl rfl dX7_influence_48 rfl ⟨Nat.le_of_ble_eq_true rfl, Nat.le_of_ble_eq_true rfl⟩ rfl (Nat.le_of_ble_eq_true rfl) ?_
      refine z_aload_n C dX7_influence_51 rfl 0 rfl ?_
      refine z_getr C kX0 vc7 eX7_influence_uX7 6 (by decide) rfl eX7_influence_f53 rfl dX7_influence_52 ?_
      refine z_iload_n C dX7_influence_55 rfl 2 rfl ?_
      obtain ⟨x4, s5, q_s5, hm⟩ := zBd_of hm
      refine z_cV (vd := false) (Cn := RX6) (k := 23) C 1 [.int v3] [.int x2] (c_X6b_of (zC_I C) (zC_st C)  q_s5) gX7_influence_X6_of (by decide +kernel) kX23 vc6 rfl rfl dX7_influence_56 rfl ⟨Nat.le_of_ble_eq_true rfl, Nat.le_of_ble_eq_true rfl⟩ rfl (Nat.le_of_ble_eq_true rfl) ?_
      refine z_icmp_eq (tgt := 65) C dX7_influence_59 (by decide) (fun c6 => ?_) (fun c6 => ?_)
      · have hm := zIt hm c6
        obtain ⟨x7, e_x7, hm⟩ := zLt_of hm
        refine z_iinc (j := 2) (v := x7) (d := (1 : Int32)) (lv' := [(3, .int x7), (0, .ref (ad 0)), (2, .int v2)]) C dX7_influence_65 rfl (by decide) e_x7 (by decide) rfl ?_
        refine z_goto (tgt := 37) C dX7_influence_68 (by decide) ?_
        exact z_sub [1, 2, 0] rfl (ih _ _ _ hm)
      · have hm := zIf hm c6
        obtain ⟨x8, e_x8, hm⟩ := zLt_of hm
        refine z_iinc (j := 1) (v := x8) (d := (1 : Int32)) (lv' := [(2, .int x8), (0, .ref (ad 0)), (3, .int v3)]) C dX7_influence_62 rfl (by decide) e_x8 (by decide) rfl ?_
        obtain ⟨x9, e_x9, hm⟩ := zLt_of hm
        refine z_iinc (j := 2) (v := x9) (d := (1 : Int32)) (lv' := [(3, .int x9), (2, .int x8), (0, .ref (ad 0))]) C dX7_influence_65 rfl (by decide) e_x9 (by decide) rfl ?_
        refine z_goto (tgt := 37) C dX7_influence_68 (by decide) ?_
        exact z_sub [2, 1, 0] rfl (ih _ _ _ hm)
set_option maxRecDepth 100000 in
set_option maxHeartbeats 4000000 in
theorem w_X7_influence_e {h : zH} {ad : Nat → Nat} {G : zG} (C : zC h ad zLX 4 G cX7_influence RX7 wsX7_influence 8 163) {n : Nat} {res : Int32 ⊕ Nat} {s9 : zS} (hQ : zQ h ad zLX G false (res) s9 (some .int)) {v1 : Int32} (s : zS) (hm : m_X7_influence n v1 s = some (res, s9)) : zV h ad zLX 4 G s 0 [(0, .ref (ad 0)), (1, .int v1)] [] := by
  rw [m_X7_influence] at hm
  refine z_iload_n C dX7_influence_0 rfl 1 rfl ?_
  rcases zBx_of hm with h_s11 | ⟨k_s11, q_s11, r_s11⟩
  rotate_left
  · subst r_s11
    exact z_xS (vd := true) C 1 [.int v1] [] (c_X7_checkLine (zC_I C) (zC_st C)  q_s11) hQ gX7_influence_X7_checkLine (by decide +kernel) rfl dX7_influence_1 rfl ⟨Nat.le_of_ble_eq_true rfl, Nat.le_of_ble_eq_true rfl⟩ rfl (Nat.le_of_ble_eq_true rfl)
  obtain ⟨x10, s11, q_s11, hm⟩ := h_s11
  refine z_cS (vd := true) C 1 [.int v1] [] (c_X7_checkLine (zC_I C) (zC_st C)  q_s11) gX7_influence_X7_checkLine (by decide +kernel) rfl dX7_influence_1 rfl ⟨Nat.le_of_ble_eq_true rfl, Nat.le_of_ble_eq_true rfl⟩ rfl (Nat.le_of_ble_eq_true rfl) ?_
  refine z_aload_n C dX7_influence_4 rfl 0 rfl ?_
  refine z_getr C kX0 vc7 eX7_influence_uX7 0 (by decide) rfl eX7_influence_f10 rfl dX7_influence_5 ?_
  refine z_iload_n C dX7_influence_8 rfl 1 rfl ?_
  obtain ⟨x12, s13, q_s13, hm⟩ := zBd_of hm
  refine z_cV (vd := false) (Cn := RX5) (k := 1) C 1 [.int v1] [] (c_X5_kind (zC_I C) (zC_st C)  q_s13) gX7_influence_X5_kind (by decide +kernel) kX1 vc5 rfl rfl dX7_influence_9 rfl ⟨Nat.le_of_ble_eq_true rfl, Nat.le_of_ble_eq_true rfl⟩ rfl (Nat.le_of_ble_eq_true rfl) ?_
  refine z_if_eq (tgt := 17) C dX7_influence_12 (by decide) (fun c14 => ?_) (fun c14 => ?_)
  · have hm := zIt hm c14
    refine z_aload_n C dX7_influence_17 rfl 0 rfl ?_
    refine z_getr C kX0 vc7 eX7_influence_uX7 5 (by decide) rfl eX7_influence_f49 rfl dX7_influence_18 ?_
    refine z_iconst (v := (-1 : Int32)) C dX7_influence_21 (by decide) ?_
    obtain ⟨x15, s16, q_s16, hm⟩ := zBd_of hm
    refine z_cV (vd := true) (Cn := RX6) (k := 21) C 1 [.int (-1 : Int32)] [] (c_X6_workOut (zC_I C) (zC_st C)  q_s16) gX7_influence_X6_workOut (by decide +kernel) kX21 vc6 rfl rfl dX7_influence_22 rfl ⟨Nat.le_of_ble_eq_true rfl, Nat.le_of_ble_eq_true rfl⟩ rfl (Nat.le_of_ble_eq_true rfl) ?_
    refine z_aload_n C dX7_influence_25 rfl 0 rfl ?_
    refine z_getr C kX0 vc7 eX7_influence_uX7 6 (by decide) rfl eX7_influence_f53 rfl dX7_influence_26 ?_
    refine z_iload_n C dX7_influence_29 rfl 1 rfl ?_
    obtain ⟨x17, s18, q_s18, hm⟩ := zBd_of hm
    refine z_cV (vd := true) (Cn := RX6) (k := 23) C 1 [.int v1] [] (c_X6b_workOut (zC_I C) (zC_st C)  q_s18) gX7_influence_X6_workOut (by decide +kernel) kX23 vc6 rfl rfl dX7_influence_30 rfl ⟨Nat.le_of_ble_eq_true rfl, Nat.le_of_ble_eq_true rfl⟩ rfl (Nat.le_of_ble_eq_true rfl) ?_
    refine z_iconst (v := (0 : Int32)) C dX7_influence_33 (by decide) ?_
    refine z_istore_n (y := (0 : Int32)) (lv' := [(2, .int (0 : Int32)), (0, .ref (ad 0)), (1, .int v1)]) C dX7_influence_34 rfl (by decide) rfl rfl ?_
    refine z_iconst (v := (0 : Int32)) C dX7_influence_35 (by decide) ?_
    refine z_istore_n (y := (0 : Int32)) (lv' := [(3, .int (0 : Int32)), (2, .int (0 : Int32)), (0, .ref (ad 0)), (1, .int v1)]) C dX7_influence_36 rfl (by decide) rfl rfl ?_
    exact z_sub [2, 1, 0] rfl (w_X7_influence_j37 C hQ  _ _ _ _ hm)
  · have hm := zIf hm c14
    refine z_iconst (v := (0 : Int32)) C dX7_influence_15 (by decide) ?_
    exact z_iret0 C hQ (zRx_of hm).1 (zRx_of hm).2 dX7_influence_16
set_option maxRecDepth 100000 in
set_option maxHeartbeats 4000000 in
theorem c_X7_influence {h : zH} {ad : Nat → Nat} (hI : zI ad zLX.length) (hst : h.1.stackTraces = false) {n : Nat} {v1 : Int32} {s s9 : zS} {res : Int32 ⊕ Nat} (hm : m_X7_influence n v1 s = some (res, s9)) : zMR h ad zLX false yX7_influence wsX7_influence 8 163 [.ref (ad 0), .int v1] s (res) s9 :=
  z_start (cc := cX7_influence) (nL := 4) (ret := (some .int)) (own := RX7) (by decide +kernel) rfl rfl hI hst (Nat.le_of_ble_eq_true rfl) (fun G C hQ => w_X7_influence_e C hQ _ hm)
set_option maxRecDepth 100000 in
theorem eX7_why_uX7 : ∀ w ∈ wsX70, w ∈ wsX7_why := by decide +kernel
set_option maxRecDepth 100000 in
theorem eX7_why_f49 : Cond.fieldLink RX7 49 RX7 (TX7 5).2.1 (TX7 5).2.2.1 ∈ wsX7_why := by decide +kernel
set_option maxRecDepth 100000 in
theorem eX7_why_f59 : Cond.fieldLink RX7 59 RX7 (TX7 7).2.1 (TX7 7).2.2.1 ∈ wsX7_why := by decide +kernel
set_option maxRecDepth 100000 in
theorem eX7_why_f10 : Cond.fieldLink RX7 10 RX7 (TX7 0).2.1 (TX7 0).2.2.1 ∈ wsX7_why := by decide +kernel
set_option maxRecDepth 100000 in
set_option maxHeartbeats 4000000 in
theorem w_X7_why_j13 {h : zH} {ad : Nat → Nat} {G : zG} (C : zC h ad zLX 3 G cX7_why RX7 wsX7_why 8 163) {n : Nat} {res : Int32 ⊕ Nat} {s9 : zS} (hQ : zQ h ad zLX G false (res) s9 (some .int)) (v1 : Int32) (v2 : Int32) (t0 : Int32) (s : zS) (hm : m_X7_why_j13 n v1 v2 t0 s = some (res, s9)) : zV h ad zLX 3 G s 13 [(0, .ref (ad 0)), (1, .int v1), (2, .int v2)] [.int t0] := by
  rw [m_X7_why_j13] at hm
  rcases zBx_of hm with h_s2 | ⟨k_s2, q_s2, r_s2⟩
  rotate_left
  · subst r_s2
    exact z_xS (vd := true) C 1 [.int t0] [] (c_X7_checkPlace (zC_I C) (zC_st C)  q_s2) hQ gX7_why_X7_checkPlace (by decide +kernel) rfl dX7_why_13 rfl ⟨Nat.le_of_ble_eq_true rfl, Nat.le_of_ble_eq_true rfl⟩ rfl (Nat.le_of_ble_eq_true rfl)
  obtain ⟨x1, s2, q_s2, hm⟩ := h_s2
  refine z_cS (vd := true) C 1 [.int t0] [] (c_X7_checkPlace (zC_I C) (zC_st C)  q_s2) gX7_why_X7_checkPlace (by decide +kernel) rfl dX7_why_13 rfl ⟨Nat.le_of_ble_eq_true rfl, Nat.le_of_ble_eq_true rfl⟩ rfl (Nat.le_of_ble_eq_true rfl) ?_
  refine z_aload_n C dX7_why_16 rfl 0 rfl ?_
  refine z_getr C kX0 vc7 eX7_why_uX7 5 (by decide) rfl eX7_why_f49 rfl dX7_why_17 ?_
  refine z_iconst (v := (-1 : Int32)) C dX7_why_20 (by decide) ?_
  obtain ⟨x3, s4, q_s4, hm⟩ := zBd_of hm
  refine z_cV (vd := true) (Cn := RX6) (k := 21) C 1 [.int (-1 : Int32)] [] (c_X6_workOut (zC_I C) (zC_st C)  q_s4) gX7_why_X6_workOut (by decide +kernel) kX21 vc6 rfl rfl dX7_why_21 rfl ⟨Nat.le_of_ble_eq_true rfl, Nat.le_of_ble_eq_true rfl⟩ rfl (Nat.le_of_ble_eq_true rfl) ?_
  refine z_aload_n C dX7_why_24 rfl 0 rfl ?_
  refine z_getr C kX0 vc7 eX7_why_uX7 7 (by decide) rfl eX7_why_f59 rfl dX7_why_25 ?_
  refine z_iload_n C dX7_why_28 rfl 1 rfl ?_
  refine z_aload_n C dX7_why_29 rfl 0 rfl ?_
  refine z_getr C kX0 vc7 eX7_why_uX7 0 (by decide) rfl eX7_why_f10 rfl dX7_why_30 ?_
  refine z_aload_n C dX7_why_33 rfl 0 rfl ?_
  refine z_getr C kX0 vc7 eX7_why_uX7 5 (by decide) rfl eX7_why_f49 rfl dX7_why_34 ?_
  obtain ⟨x5, s6, q_s6, hm⟩ := zBd_of hm
  refine z_cV (vd := true) (Cn := RX3) (k := 25) C 3 [.int v1, .ref (ad 1), .ref (ad 21)] [] (c_X3_explain (zC_I C) (zC_st C)  q_s6) gX7_why_X3_explain (by decide +kernel) kX25 vc3 rfl rfl dX7_why_37 rfl ⟨Nat.le_of_ble_eq_true rfl, Nat.le_of_ble_eq_true rfl⟩ rfl (Nat.le_of_ble_eq_true rfl) ?_
  refine z_aload_n C dX7_why_40 rfl 0 rfl ?_
  refine z_getr C kX0 vc7 eX7_why_uX7 7 (by decide) rfl eX7_why_f59 rfl dX7_why_41 ?_
  refine z_iload_n C dX7_why_44 rfl 2 rfl ?_
  obtain ⟨x7, s8, q_s8, hm⟩ := zBd_of hm
  refine z_cV (vd := false) (Cn := RX3) (k := 25) C 1 [.int v2] [] (c_X3_lineAt (zC_I C) (zC_st C)  q_s8) gX7_why_X3_lineAt (by decide +kernel) kX25 vc3 rfl rfl dX7_why_45 rfl ⟨Nat.le_of_ble_eq_true rfl, Nat.le_of_ble_eq_true rfl⟩ rfl (Nat.le_of_ble_eq_true rfl) ?_
  exact z_iret0 C hQ (zRx_of hm).1 (zRx_of hm).2 dX7_why_48
set_option maxRecDepth 100000 in
set_option maxHeartbeats 4000000 in
theorem w_X7_why_e {h : zH} {ad : Nat → Nat} {G : zG} (C : zC h ad zLX 3 G cX7_why RX7 wsX7_why 8 163) {n : Nat} {res : Int32 ⊕ Nat} {s9 : zS} (hQ : zQ h ad zLX G false (res) s9 (some .int)) {v1 : Int32} {v2 : Int32} (s : zS) (hm : m_X7_why n v1 v2 s = some (res, s9)) : zV h ad zLX 3 G s 0 [(0, .ref (ad 0)), (1, .int v1), (2, .int v2)] [] := by
  rw [m_X7_why] at hm
  refine z_iload_n C dX7_why_0 rfl 1 rfl ?_
  rcases zBx_of hm with h_s10 | ⟨k_s10, q_s10, r_s10⟩
  rotate_left
  · subst r_s10
    exact z_xS (vd := true) C 1 [.int v1] [] (c_X7_checkLine (zC_I C) (zC_st C)  q_s10) hQ gX7_why_X7_checkLine (by decide +kernel) rfl dX7_why_1 rfl ⟨Nat.le_of_ble_eq_true rfl, Nat.le_of_ble_eq_true rfl⟩ rfl (Nat.le_of_ble_eq_true rfl)
  obtain ⟨x9, s10, q_s10, hm⟩ := h_s10
  refine z_cS (vd := true) C 1 [.int v1] [] (c_X7_checkLine (zC_I C) (zC_st C)  q_s10) gX7_why_X7_checkLine (by decide +kernel) rfl dX7_why_1 rfl ⟨Nat.le_of_ble_eq_true rfl, Nat.le_of_ble_eq_true rfl⟩ rfl (Nat.le_of_ble_eq_true rfl) ?_
  refine z_iload_n C dX7_why_4 rfl 2 rfl ?_
  refine z_if_lt (tgt := 12) C dX7_why_5 (by decide) (fun c11 => ?_) (fun c11 => ?_)
  · have hm := zIt hm c11
    refine z_iconst (v := (0 : Int32)) C dX7_why_12 (by decide) ?_
    exact z_sub [0, 1, 2] rfl (w_X7_why_j13 C hQ  _ _ _ _ hm)
  · have hm := zIf hm c11
    refine z_iconst (v := (1 : Int32)) C dX7_why_8 (by decide) ?_
    refine z_goto (tgt := 13) C dX7_why_9 (by decide) ?_
    exact z_sub [0, 1, 2] rfl (w_X7_why_j13 C hQ  _ _ _ _ hm)
set_option maxRecDepth 100000 in
set_option maxHeartbeats 4000000 in
theorem c_X7_why {h : zH} {ad : Nat → Nat} (hI : zI ad zLX.length) (hst : h.1.stackTraces = false) {n : Nat} {v1 : Int32} {v2 : Int32} {s s9 : zS} {res : Int32 ⊕ Nat} (hm : m_X7_why n v1 v2 s = some (res, s9)) : zMR h ad zLX false yX7_why wsX7_why 8 163 [.ref (ad 0), .int v1, .int v2] s (res) s9 :=
  z_start (cc := cX7_why) (nL := 3) (ret := (some .int)) (own := RX7) (by decide +kernel) rfl rfl hI hst (Nat.le_of_ble_eq_true rfl) (fun G C hQ => w_X7_why_e C hQ _ hm)
set_option maxRecDepth 100000 in
theorem eX7_bracket_uX7 : ∀ w ∈ wsX70, w ∈ wsX7_bracket := by decide +kernel
set_option maxRecDepth 100000 in
theorem eX7_bracket_f26 : Cond.fieldLink RX7 26 RX7 (TX7 2).2.1 (TX7 2).2.2.1 ∈ wsX7_bracket := by decide +kernel
set_option maxRecDepth 100000 in
theorem eX7_bracket_c103 : Cond.constant RX7 103 (1000000 : Int32) ∈ wsX7_bracket := by decide +kernel
set_option maxRecDepth 100000 in
set_option maxHeartbeats 4000000 in
theorem w_X7_bracket_j26 {h : zH} {ad : Nat → Nat} {G : zG} (C : zC h ad zLX 3 G cX7_bracket RX7 wsX7_bracket 7 110) {n : Nat} {res : Int32 ⊕ Nat} {s9 : zS} (hQ : zQ h ad zLX G false (res) s9 (some .int)) (v1 : Int32) (v2 : Int32) (t0 : Int32) (s : zS) (hm : m_X7_bracket_j26 n v1 v2 t0 s = some (res, s9)) : zV h ad zLX 3 G s 26 [(0, .ref (ad 0)), (1, .int v1), (2, .int v2)] [.int t0] := by
  rw [m_X7_bracket_j26] at hm
  rcases zBx_of hm with h_s2 | ⟨k_s2, q_s2, r_s2⟩
  rotate_left
  · subst r_s2
    exact z_xS (vd := true) C 1 [.int t0] [] (c_X7_checkArgument (zC_I C) (zC_st C)  q_s2) hQ gX7_bracket_X7_checkArgument (by decide +kernel) rfl dX7_bracket_26 rfl ⟨Nat.le_of_ble_eq_true rfl, Nat.le_of_ble_eq_true rfl⟩ rfl (Nat.le_of_ble_eq_true rfl)
  obtain ⟨x1, s2, q_s2, hm⟩ := h_s2
  refine z_cS (vd := true) C 1 [.int t0] [] (c_X7_checkArgument (zC_I C) (zC_st C)  q_s2) gX7_bracket_X7_checkArgument (by decide +kernel) rfl dX7_bracket_26 rfl ⟨Nat.le_of_ble_eq_true rfl, Nat.le_of_ble_eq_true rfl⟩ rfl (Nat.le_of_ble_eq_true rfl) ?_
  refine z_aload_n C dX7_bracket_29 rfl 0 rfl ?_
  refine z_getr C kX0 vc7 eX7_bracket_uX7 2 (by decide) rfl eX7_bracket_f26 rfl dX7_bracket_30 ?_
  refine z_iload_n C dX7_bracket_33 rfl 1 rfl ?_
  obtain ⟨x3, s4, q_s4, hm⟩ := zBd_of hm
  refine z_cV (vd := false) (Cn := RX1) (k := 10) C 1 [.int v1] [] (c_X1_hasRoomFor (zC_I C) (zC_st C)  q_s4) gX7_bracket_X1_hasRoomFor (by decide +kernel) kX10 vc1 rfl rfl dX7_bracket_34 rfl ⟨Nat.le_of_ble_eq_true rfl, Nat.le_of_ble_eq_true rfl⟩ rfl (Nat.le_of_ble_eq_true rfl) ?_
  rcases zBx_of hm with h_s6 | ⟨k_s6, q_s6, r_s6⟩
  rotate_left
  · subst r_s6
    exact z_xS (vd := true) C 1 [.int x3] [] (c_X7_checkState (zC_I C) (zC_st C)  q_s6) hQ gX7_bracket_X7_checkState (by decide +kernel) rfl dX7_bracket_37 rfl ⟨Nat.le_of_ble_eq_true rfl, Nat.le_of_ble_eq_true rfl⟩ rfl (Nat.le_of_ble_eq_true rfl)
  obtain ⟨x5, s6, q_s6, hm⟩ := h_s6
  refine z_cS (vd := true) C 1 [.int x3] [] (c_X7_checkState (zC_I C) (zC_st C)  q_s6) gX7_bracket_X7_checkState (by decide +kernel) rfl dX7_bracket_37 rfl ⟨Nat.le_of_ble_eq_true rfl, Nat.le_of_ble_eq_true rfl⟩ rfl (Nat.le_of_ble_eq_true rfl) ?_
  refine z_aload_n C dX7_bracket_40 rfl 0 rfl ?_
  refine z_getr C kX0 vc7 eX7_bracket_uX7 2 (by decide) rfl eX7_bracket_f26 rfl dX7_bracket_41 ?_
  refine z_iload_n C dX7_bracket_44 rfl 1 rfl ?_
  refine z_iload_n C dX7_bracket_45 rfl 2 rfl ?_
  obtain ⟨x7, s8, q_s8, hm⟩ := zBd_of hm
  refine z_cV (vd := true) (Cn := RX1) (k := 10) C 2 [.int v1, .int v2] [] (c_X1_set (zC_I C) (zC_st C)  q_s8) gX7_bracket_X1_set (by decide +kernel) kX10 vc1 rfl rfl dX7_bracket_46 rfl ⟨Nat.le_of_ble_eq_true rfl, Nat.le_of_ble_eq_true rfl⟩ rfl (Nat.le_of_ble_eq_true rfl) ?_
  refine z_aload_n C dX7_bracket_49 rfl 0 rfl ?_
  refine z_getr C kX0 vc7 eX7_bracket_uX7 2 (by decide) rfl eX7_bracket_f26 rfl dX7_bracket_50 ?_
  obtain ⟨x9, s10, q_s10, hm⟩ := zBd_of hm
  refine z_cV (vd := false) (Cn := RX1) (k := 10) C 0 [] [] (c_X1_size (zC_I C) (zC_st C)  q_s10) gX7_bracket_X1_size (by decide +kernel) kX10 vc1 rfl rfl dX7_bracket_53 rfl ⟨Nat.le_of_ble_eq_true rfl, Nat.le_of_ble_eq_true rfl⟩ rfl (Nat.le_of_ble_eq_true rfl) ?_
  exact z_iret0 C hQ (zRx_of hm).1 (zRx_of hm).2 dX7_bracket_56
set_option maxRecDepth 100000 in
set_option maxHeartbeats 4000000 in
theorem w_X7_bracket_e {h : zH} {ad : Nat → Nat} {G : zG} (C : zC h ad zLX 3 G cX7_bracket RX7 wsX7_bracket 7 110) {n : Nat} {res : Int32 ⊕ Nat} {s9 : zS} (hQ : zQ h ad zLX G false (res) s9 (some .int)) {v1 : Int32} {v2 : Int32} (s : zS) (hm : m_X7_bracket n v1 v2 s = some (res, s9)) : zV h ad zLX 3 G s 0 [(0, .ref (ad 0)), (1, .int v1), (2, .int v2)] [] := by
  rw [m_X7_bracket] at hm
  refine z_iload_n C dX7_bracket_0 rfl 1 rfl ?_
  refine z_iconst (v := (0 : Int32)) C dX7_bracket_1 (by decide) ?_
  refine z_ldc (v := (1000000 : Int32)) C eX7_bracket_c103 dX7_bracket_2 ?_
  obtain ⟨x11, s12, q_s12, hm⟩ := zBd_of hm
  refine z_cS (vd := false) C 3 [.int v1, .int (0 : Int32), .int (1000000 : Int32)] [] (c_X7_isWithin (zC_I C) (zC_st C)  q_s12) gX7_bracket_X7_isWithin (by decide +kernel) rfl dX7_bracket_4 rfl ⟨Nat.le_of_ble_eq_true rfl, Nat.le_of_ble_eq_true rfl⟩ rfl (Nat.le_of_ble_eq_true rfl) ?_
  refine z_if_eq (tgt := 25) C dX7_bracket_7 (by decide) (fun c13 => ?_) (fun c13 => ?_)
  · have hm := zIt hm c13
    refine z_iconst (v := (0 : Int32)) C dX7_bracket_25 (by decide) ?_
    exact z_sub [0, 1, 2] rfl (w_X7_bracket_j26 C hQ  _ _ _ _ hm)
  · have hm := zIf hm c13
    refine z_iload_n C dX7_bracket_10 rfl 2 rfl ?_
    refine z_iconst (v := (0 : Int32)) C dX7_bracket_11 (by decide) ?_
    refine z_sipush (v := (1000 : Int32)) C dX7_bracket_12 (by decide) ?_
    obtain ⟨x14, s15, q_s15, hm⟩ := zBd_of hm
    refine z_cS (vd := false) C 3 [.int v2, .int (0 : Int32), .int (1000 : Int32)] [] (c_X7_isWithin (zC_I C) (zC_st C)  q_s15) gX7_bracket_X7_isWithin (by decide +kernel) rfl dX7_bracket_15 rfl ⟨Nat.le_of_ble_eq_true rfl, Nat.le_of_ble_eq_true rfl⟩ rfl (Nat.le_of_ble_eq_true rfl) ?_
    refine z_if_eq (tgt := 25) C dX7_bracket_18 (by decide) (fun c16 => ?_) (fun c16 => ?_)
    · have hm := zIt hm c16
      refine z_iconst (v := (0 : Int32)) C dX7_bracket_25 (by decide) ?_
      exact z_sub [0, 1, 2] rfl (w_X7_bracket_j26 C hQ  _ _ _ _ hm)
    · have hm := zIf hm c16
      refine z_iconst (v := (1 : Int32)) C dX7_bracket_21 (by decide) ?_
      refine z_goto (tgt := 26) C dX7_bracket_22 (by decide) ?_
      exact z_sub [0, 1, 2] rfl (w_X7_bracket_j26 C hQ  _ _ _ _ hm)
set_option maxRecDepth 100000 in
set_option maxHeartbeats 4000000 in
theorem c_X7_bracket {h : zH} {ad : Nat → Nat} (hI : zI ad zLX.length) (hst : h.1.stackTraces = false) {n : Nat} {v1 : Int32} {v2 : Int32} {s s9 : zS} {res : Int32 ⊕ Nat} (hm : m_X7_bracket n v1 v2 s = some (res, s9)) : zMR h ad zLX false yX7_bracket wsX7_bracket 7 110 [.ref (ad 0), .int v1, .int v2] s (res) s9 :=
  z_start (cc := cX7_bracket) (nL := 3) (ret := (some .int)) (own := RX7) (by decide +kernel) rfl rfl hI hst (Nat.le_of_ble_eq_true rfl) (fun G C hQ => w_X7_bracket_e C hQ _ hm)
set_option maxRecDepth 100000 in
theorem eX7_dropBrackets_uX7 : ∀ w ∈ wsX70, w ∈ wsX7_dropBrackets := by decide +kernel
set_option maxRecDepth 100000 in
theorem eX7_dropBrackets_f26 : Cond.fieldLink RX7 26 RX7 (TX7 2).2.1 (TX7 2).2.2.1 ∈ wsX7_dropBrackets := by decide +kernel
set_option maxRecDepth 100000 in
set_option maxHeartbeats 4000000 in
theorem w_X7_dropBrackets_e {h : zH} {ad : Nat → Nat} {G : zG} (C : zC h ad zLX 2 G cX7_dropBrackets RX7 wsX7_dropBrackets 1 20) {n : Nat} {r : Int32} {s9 : zS} (hQ : zQ h ad zLX G false (.inl r) s9 (some .int))  (s : zS) (hm : m_X7_dropBrackets n s = some (r, s9)) : zV h ad zLX 2 G s 0 [(0, .ref (ad 0))] [] := by
  rw [m_X7_dropBrackets] at hm
  refine z_aload_n C dX7_dropBrackets_0 rfl 0 rfl ?_
  refine z_getr C kX0 vc7 eX7_dropBrackets_uX7 2 (by decide) rfl eX7_dropBrackets_f26 rfl dX7_dropBrackets_1 ?_
  obtain ⟨x1, s2, q_s2, hm⟩ := zBd_of hm
  refine z_cV (vd := false) (Cn := RX1) (k := 10) C 0 [] [] (c_X1_size (zC_I C) (zC_st C)  q_s2) gX7_dropBrackets_X1_size (by decide +kernel) kX10 vc1 rfl rfl dX7_dropBrackets_4 rfl ⟨Nat.le_of_ble_eq_true rfl, Nat.le_of_ble_eq_true rfl⟩ rfl (Nat.le_of_ble_eq_true rfl) ?_
  refine z_istore_n (y := x1) (lv' := [(1, .int x1), (0, .ref (ad 0))]) C dX7_dropBrackets_7 rfl (by decide) rfl rfl ?_
  refine z_aload_n C dX7_dropBrackets_8 rfl 1 rfl ?_
  refine z_getr C kX0 vc7 eX7_dropBrackets_uX7 2 (by decide) rfl eX7_dropBrackets_f26 rfl dX7_dropBrackets_9 ?_
  obtain ⟨x3, s4, q_s4, hm⟩ := zBd_of hm
  refine z_cV (vd := true) (Cn := RX1) (k := 10) C 0 [] [] (c_X1_clear (zC_I C) (zC_st C)  q_s4) gX7_dropBrackets_X1_clear (by decide +kernel) kX10 vc1 rfl rfl dX7_dropBrackets_12 rfl ⟨Nat.le_of_ble_eq_true rfl, Nat.le_of_ble_eq_true rfl⟩ rfl (Nat.le_of_ble_eq_true rfl) ?_
  refine z_iload_n C dX7_dropBrackets_15 rfl 0 rfl ?_
  exact z_iret0 C hQ (zRt_of hm).1 (zRt_of hm).2 dX7_dropBrackets_16
set_option maxRecDepth 100000 in
set_option maxHeartbeats 4000000 in
theorem c_X7_dropBrackets {h : zH} {ad : Nat → Nat} (hI : zI ad zLX.length) (hst : h.1.stackTraces = false) {n : Nat} {s s9 : zS} {r : Int32} (hm : m_X7_dropBrackets n s = some (r, s9)) : zMR h ad zLX false yX7_dropBrackets wsX7_dropBrackets 1 20 [.ref (ad 0)] s (.inl r) s9 :=
  z_start (cc := cX7_dropBrackets) (nL := 2) (ret := (some .int)) (own := RX7) (by decide +kernel) rfl rfl hI hst (Nat.le_of_ble_eq_true rfl) (fun G C hQ => w_X7_dropBrackets_e C hQ _ hm)
set_option maxRecDepth 100000 in
theorem eX7_taxOn_c117 : Cond.constant RX7 117 (1000000000 : Int32) ∈ wsX7_taxOn := by decide +kernel
set_option maxRecDepth 100000 in
theorem eX7_taxOn_uX7 : ∀ w ∈ wsX70, w ∈ wsX7_taxOn := by decide +kernel
set_option maxRecDepth 100000 in
theorem eX7_taxOn_f26 : Cond.fieldLink RX7 26 RX7 (TX7 2).2.1 (TX7 2).2.2.1 ∈ wsX7_taxOn := by decide +kernel
set_option maxRecDepth 100000 in
set_option maxHeartbeats 4000000 in
theorem w_X7_taxOn_e {h : zH} {ad : Nat → Nat} {G : zG} (C : zC h ad zLX 2 G cX7_taxOn RX7 wsX7_taxOn 7 110) {n : Nat} {res : Int32 ⊕ Nat} {s9 : zS} (hQ : zQ h ad zLX G false (res) s9 (some .int)) {v1 : Int32} (s : zS) (hm : m_X7_taxOn n v1 s = some (res, s9)) : zV h ad zLX 2 G s 0 [(0, .ref (ad 0)), (1, .int v1)] [] := by
  rw [m_X7_taxOn] at hm
  refine z_iload_n C dX7_taxOn_0 rfl 1 rfl ?_
  refine z_iconst (v := (0 : Int32)) C dX7_taxOn_1 (by decide) ?_
  refine z_ldc (v := (1000000000 : Int32)) C eX7_taxOn_c117 dX7_taxOn_2 ?_
  obtain ⟨x1, s2, q_s2, hm⟩ := zBd_of hm
  refine z_cS (vd := false) C 3 [.int v1, .int (0 : Int32), .int (1000000000 : Int32)] [] (c_X7_isWithin (zC_I C) (zC_st C)  q_s2) gX7_taxOn_X7_isWithin (by decide +kernel) rfl dX7_taxOn_4 rfl ⟨Nat.le_of_ble_eq_true rfl, Nat.le_of_ble_eq_true rfl⟩ rfl (Nat.le_of_ble_eq_true rfl) ?_
  rcases zBx_of hm with h_s4 | ⟨k_s4, q_s4, r_s4⟩
  rotate_left
  · subst r_s4
    exact z_xS (vd := true) C 1 [.int x1] [] (c_X7_checkArgument (zC_I C) (zC_st C)  q_s4) hQ gX7_taxOn_X7_checkArgument (by decide +kernel) rfl dX7_taxOn_7 rfl ⟨Nat.le_of_ble_eq_true rfl, Nat.le_of_ble_eq_true rfl⟩ rfl (Nat.le_of_ble_eq_true rfl)
  obtain ⟨x3, s4, q_s4, hm⟩ := h_s4
  refine z_cS (vd := true) C 1 [.int x1] [] (c_X7_checkArgument (zC_I C) (zC_st C)  q_s4) gX7_taxOn_X7_checkArgument (by decide +kernel) rfl dX7_taxOn_7 rfl ⟨Nat.le_of_ble_eq_true rfl, Nat.le_of_ble_eq_true rfl⟩ rfl (Nat.le_of_ble_eq_true rfl) ?_
  refine z_aload_n C dX7_taxOn_10 rfl 0 rfl ?_
  refine z_getr C kX0 vc7 eX7_taxOn_uX7 2 (by decide) rfl eX7_taxOn_f26 rfl dX7_taxOn_11 ?_
  refine z_iload_n C dX7_taxOn_14 rfl 1 rfl ?_
  obtain ⟨x5, s6, q_s6, hm⟩ := zBd_of hm
  refine z_cV (vd := false) (Cn := RX1) (k := 10) C 1 [.int v1] [] (c_X1_tax (zC_I C) (zC_st C)  q_s6) gX7_taxOn_X1_tax (by decide +kernel) kX10 vc1 rfl rfl dX7_taxOn_15 rfl ⟨Nat.le_of_ble_eq_true rfl, Nat.le_of_ble_eq_true rfl⟩ rfl (Nat.le_of_ble_eq_true rfl) ?_
  exact z_iret0 C hQ (zRx_of hm).1 (zRx_of hm).2 dX7_taxOn_18
set_option maxRecDepth 100000 in
set_option maxHeartbeats 4000000 in
theorem c_X7_taxOn {h : zH} {ad : Nat → Nat} (hI : zI ad zLX.length) (hst : h.1.stackTraces = false) {n : Nat} {v1 : Int32} {s s9 : zS} {res : Int32 ⊕ Nat} (hm : m_X7_taxOn n v1 s = some (res, s9)) : zMR h ad zLX false yX7_taxOn wsX7_taxOn 7 110 [.ref (ad 0), .int v1] s (res) s9 :=
  z_start (cc := cX7_taxOn) (nL := 2) (ret := (some .int)) (own := RX7) (by decide +kernel) rfl rfl hI hst (Nat.le_of_ble_eq_true rfl) (fun G C hQ => w_X7_taxOn_e C hQ _ hm)
set_option maxRecDepth 100000 in
theorem eX7_carry_uX7 : ∀ w ∈ wsX70, w ∈ wsX7_carry := by decide +kernel
set_option maxRecDepth 100000 in
theorem eX7_carry_f33 : Cond.fieldLink RX7 33 RX7 (TX7 3).2.1 (TX7 3).2.2.1 ∈ wsX7_carry := by decide +kernel
set_option maxRecDepth 100000 in
theorem eX7_carry_c103 : Cond.constant RX7 103 (1000000 : Int32) ∈ wsX7_carry := by decide +kernel
set_option maxRecDepth 100000 in
set_option maxHeartbeats 4000000 in
theorem w_X7_carry_j55 {h : zH} {ad : Nat → Nat} {G : zG} (C : zC h ad zLX 4 G cX7_carry RX7 wsX7_carry 7 110) {n : Nat} {res : Int32 ⊕ Nat} {s9 : zS} (hQ : zQ h ad zLX G false (res) s9 (some .int)) (v1 : Int32) (v2 : Int32) (t0 : Int32) (s : zS) (hm : m_X7_carry_j55 n v1 v2 t0 s = some (res, s9)) : zV h ad zLX 4 G s 55 [(0, .ref (ad 0)), (1, .int v1), (2, .int v2)] [.int t0] := by
  rw [m_X7_carry_j55] at hm
  rcases zBx_of hm with h_s2 | ⟨k_s2, q_s2, r_s2⟩
  rotate_left
  · subst r_s2
    exact z_xS (vd := true) C 1 [.int t0] [] (c_X7_checkState (zC_I C) (zC_st C)  q_s2) hQ gX7_carry_X7_checkState (by decide +kernel) rfl dX7_carry_55 rfl ⟨Nat.le_of_ble_eq_true rfl, Nat.le_of_ble_eq_true rfl⟩ rfl (Nat.le_of_ble_eq_true rfl)
  obtain ⟨x1, s2, q_s2, hm⟩ := h_s2
  refine z_cS (vd := true) C 1 [.int t0] [] (c_X7_checkState (zC_I C) (zC_st C)  q_s2) gX7_carry_X7_checkState (by decide +kernel) rfl dX7_carry_55 rfl ⟨Nat.le_of_ble_eq_true rfl, Nat.le_of_ble_eq_true rfl⟩ rfl (Nat.le_of_ble_eq_true rfl) ?_
  refine z_aload_n C dX7_carry_58 rfl 0 rfl ?_
  refine z_getr C kX0 vc7 eX7_carry_uX7 3 (by decide) rfl eX7_carry_f33 rfl dX7_carry_59 ?_
  refine z_iload_n C dX7_carry_62 rfl 1 rfl ?_
  refine z_iload_n C dX7_carry_63 rfl 2 rfl ?_
  obtain ⟨x3, s4, q_s4, hm⟩ := zBd_of hm
  refine z_cV (vd := true) (Cn := RX0) (k := 13) C 2 [.int v1, .int v2] [] (c_X0_add (zC_I C) (zC_st C)  q_s4) gX7_carry_X0_add (by decide +kernel) kX13 vc0 rfl rfl dX7_carry_64 rfl ⟨Nat.le_of_ble_eq_true rfl, Nat.le_of_ble_eq_true rfl⟩ rfl (Nat.le_of_ble_eq_true rfl) ?_
  refine z_aload_n C dX7_carry_67 rfl 0 rfl ?_
  refine z_getr C kX0 vc7 eX7_carry_uX7 3 (by decide) rfl eX7_carry_f33 rfl dX7_carry_68 ?_
  obtain ⟨x5, s6, q_s6, hm⟩ := zBd_of hm
  refine z_cV (vd := false) (Cn := RX0) (k := 13) C 0 [] [] (c_X0_total (zC_I C) (zC_st C)  q_s6) gX7_carry_X0_total (by decide +kernel) kX13 vc0 rfl rfl dX7_carry_71 rfl ⟨Nat.le_of_ble_eq_true rfl, Nat.le_of_ble_eq_true rfl⟩ rfl (Nat.le_of_ble_eq_true rfl) ?_
  exact z_iret0 C hQ (zRx_of hm).1 (zRx_of hm).2 dX7_carry_74
set_option maxRecDepth 100000 in
set_option maxHeartbeats 4000000 in
theorem w_X7_carry_j35 {h : zH} {ad : Nat → Nat} {G : zG} (C : zC h ad zLX 4 G cX7_carry RX7 wsX7_carry 7 110) {n : Nat} {res : Int32 ⊕ Nat} {s9 : zS} (hQ : zQ h ad zLX G false (res) s9 (some .int)) (v1 : Int32) (v2 : Int32) (t0 : Int32) (s : zS) (hm : m_X7_carry_j35 n v1 v2 t0 s = some (res, s9)) : zV h ad zLX 4 G s 35 [(0, .ref (ad 0)), (1, .int v1), (2, .int v2)] [.int t0] := by
  rw [m_X7_carry_j35] at hm
  rcases zBx_of hm with h_s8 | ⟨k_s8, q_s8, r_s8⟩
  rotate_left
  · subst r_s8
    exact z_xS (vd := true) C 1 [.int t0] [] (c_X7_checkArgument (zC_I C) (zC_st C)  q_s8) hQ gX7_carry_X7_checkArgument (by decide +kernel) rfl dX7_carry_35 rfl ⟨Nat.le_of_ble_eq_true rfl, Nat.le_of_ble_eq_true rfl⟩ rfl (Nat.le_of_ble_eq_true rfl)
  obtain ⟨x7, s8, q_s8, hm⟩ := h_s8
  refine z_cS (vd := true) C 1 [.int t0] [] (c_X7_checkArgument (zC_I C) (zC_st C)  q_s8) gX7_carry_X7_checkArgument (by decide +kernel) rfl dX7_carry_35 rfl ⟨Nat.le_of_ble_eq_true rfl, Nat.le_of_ble_eq_true rfl⟩ rfl (Nat.le_of_ble_eq_true rfl) ?_
  refine z_aload_n C dX7_carry_38 rfl 0 rfl ?_
  refine z_getr C kX0 vc7 eX7_carry_uX7 3 (by decide) rfl eX7_carry_f33 rfl dX7_carry_39 ?_
  obtain ⟨x9, s10, q_s10, hm⟩ := zBd_of hm
  refine z_cV (vd := false) (Cn := RX0) (k := 13) C 0 [] [] (c_X0_size (zC_I C) (zC_st C)  q_s10) gX7_carry_X0_size (by decide +kernel) kX13 vc0 rfl rfl dX7_carry_42 rfl ⟨Nat.le_of_ble_eq_true rfl, Nat.le_of_ble_eq_true rfl⟩ rfl (Nat.le_of_ble_eq_true rfl) ?_
  refine z_bipush (v := (8 : Int32)) C dX7_carry_45 (by decide) ?_
  refine z_icmp_ge (tgt := 54) C dX7_carry_47 (by decide) (fun c11 => ?_) (fun c11 => ?_)
  · have hm := zIt hm c11
    refine z_iconst (v := (0 : Int32)) C dX7_carry_54 (by decide) ?_
    exact z_sub [0, 1, 2] rfl (w_X7_carry_j55 C hQ  _ _ _ _ hm)
  · have hm := zIf hm c11
    refine z_iconst (v := (1 : Int32)) C dX7_carry_50 (by decide) ?_
    refine z_goto (tgt := 55) C dX7_carry_51 (by decide) ?_
    exact z_sub [0, 1, 2] rfl (w_X7_carry_j55 C hQ  _ _ _ _ hm)
set_option maxRecDepth 100000 in
set_option maxHeartbeats 4000000 in
theorem w_X7_carry_e {h : zH} {ad : Nat → Nat} {G : zG} (C : zC h ad zLX 4 G cX7_carry RX7 wsX7_carry 7 110) {n : Nat} {res : Int32 ⊕ Nat} {s9 : zS} (hQ : zQ h ad zLX G false (res) s9 (some .int)) {v1 : Int32} {v2 : Int32} (s : zS) (hm : m_X7_carry n v1 v2 s = some (res, s9)) : zV h ad zLX 4 G s 0 [(0, .ref (ad 0)), (1, .int v1), (2, .int v2)] [] := by
  rw [m_X7_carry] at hm
  refine z_aload_n C dX7_carry_0 rfl 0 rfl ?_
  refine z_getr C kX0 vc7 eX7_carry_uX7 3 (by decide) rfl eX7_carry_f33 rfl dX7_carry_1 ?_
  obtain ⟨x12, s13, q_s13, hm⟩ := zBd_of hm
  refine z_cV (vd := false) (Cn := RX0) (k := 13) C 0 [] [] (c_X0_now (zC_I C) (zC_st C)  q_s13) gX7_carry_X0_now (by decide +kernel) kX13 vc0 rfl rfl dX7_carry_4 rfl ⟨Nat.le_of_ble_eq_true rfl, Nat.le_of_ble_eq_true rfl⟩ rfl (Nat.le_of_ble_eq_true rfl) ?_
  refine z_istore_n (y := x12) (lv' := [(3, .int x12), (0, .ref (ad 0)), (1, .int v1), (2, .int v2)]) C dX7_carry_7 rfl (by decide) rfl rfl ?_
  refine z_iload_n C dX7_carry_8 rfl 2 rfl ?_
  refine z_iconst (v := (1 : Int32)) C dX7_carry_9 (by decide) ?_
  refine z_ldc (v := (1000000 : Int32)) C eX7_carry_c103 dX7_carry_10 ?_
  obtain ⟨x14, s15, q_s15, hm⟩ := zBd_of hm
  refine z_cS (vd := false) C 3 [.int v1, .int (1 : Int32), .int (1000000 : Int32)] [] (c_X7_isWithin (zC_I C) (zC_st C)  q_s15) gX7_carry_X7_isWithin (by decide +kernel) rfl dX7_carry_12 rfl ⟨Nat.le_of_ble_eq_true rfl, Nat.le_of_ble_eq_true rfl⟩ rfl (Nat.le_of_ble_eq_true rfl) ?_
  refine z_if_eq (tgt := 34) C dX7_carry_15 (by decide) (fun c16 => ?_) (fun c16 => ?_)
  · have hm := zIt hm c16
    refine z_iconst (v := (0 : Int32)) C dX7_carry_34 (by decide) ?_
    exact z_sub [1, 2, 3] rfl (w_X7_carry_j35 C hQ  _ _ _ _ hm)
  · have hm := zIf hm c16
    refine z_iload_n C dX7_carry_18 rfl 3 rfl ?_
    refine z_iload_n C dX7_carry_19 rfl 0 rfl ?_
    refine z_iload_n C dX7_carry_20 rfl 0 rfl ?_
    refine z_bipush (v := (20 : Int32)) C dX7_carry_21 (by decide) ?_
    refine z_iadd C dX7_carry_23 ?_
    obtain ⟨x17, s18, q_s18, hm⟩ := zBd_of hm
    refine z_cS (vd := false) C 3 [.int v2, .int x12, .int (x12 + (20 : Int32))] [] (c_X7_isWithin (zC_I C) (zC_st C)  q_s18) gX7_carry_X7_isWithin (by decide +kernel) rfl dX7_carry_24 rfl ⟨Nat.le_of_ble_eq_true rfl, Nat.le_of_ble_eq_true rfl⟩ rfl (Nat.le_of_ble_eq_true rfl) ?_
    refine z_if_eq (tgt := 34) C dX7_carry_27 (by decide) (fun c19 => ?_) (fun c19 => ?_)
    · have hm := zIt hm c19
      refine z_iconst (v := (0 : Int32)) C dX7_carry_34 (by decide) ?_
      exact z_sub [1, 2, 3] rfl (w_X7_carry_j35 C hQ  _ _ _ _ hm)
    · have hm := zIf hm c19
      refine z_iconst (v := (1 : Int32)) C dX7_carry_30 (by decide) ?_
      refine z_goto (tgt := 35) C dX7_carry_31 (by decide) ?_
      exact z_sub [1, 2, 3] rfl (w_X7_carry_j35 C hQ  _ _ _ _ hm)
set_option maxRecDepth 100000 in
set_option maxHeartbeats 4000000 in
theorem c_X7_carry {h : zH} {ad : Nat → Nat} (hI : zI ad zLX.length) (hst : h.1.stackTraces = false) {n : Nat} {v1 : Int32} {v2 : Int32} {s s9 : zS} {res : Int32 ⊕ Nat} (hm : m_X7_carry n v1 v2 s = some (res, s9)) : zMR h ad zLX false yX7_carry wsX7_carry 7 110 [.ref (ad 0), .int v1, .int v2] s (res) s9 :=
  z_start (cc := cX7_carry) (nL := 4) (ret := (some .int)) (own := RX7) (by decide +kernel) rfl rfl hI hst (Nat.le_of_ble_eq_true rfl) (fun G C hQ => w_X7_carry_e C hQ _ hm)
set_option maxRecDepth 100000 in
theorem eX7_carried_uX7 : ∀ w ∈ wsX70, w ∈ wsX7_carried := by decide +kernel
set_option maxRecDepth 100000 in
theorem eX7_carried_f33 : Cond.fieldLink RX7 33 RX7 (TX7 3).2.1 (TX7 3).2.2.1 ∈ wsX7_carried := by decide +kernel
set_option maxRecDepth 100000 in
set_option maxHeartbeats 4000000 in
theorem w_X7_carried_e {h : zH} {ad : Nat → Nat} {G : zG} (C : zC h ad zLX 1 G cX7_carried RX7 wsX7_carried 3 64) {n : Nat} {r : Int32} {s9 : zS} (hQ : zQ h ad zLX G false (.inl r) s9 (some .int))  (s : zS) (hm : m_X7_carried n s = some (r, s9)) : zV h ad zLX 1 G s 0 [(0, .ref (ad 0))] [] := by
  rw [m_X7_carried] at hm
  refine z_aload_n C dX7_carried_0 rfl 0 rfl ?_
  refine z_getr C kX0 vc7 eX7_carried_uX7 3 (by decide) rfl eX7_carried_f33 rfl dX7_carried_1 ?_
  obtain ⟨x1, s2, q_s2, hm⟩ := zBd_of hm
  refine z_cV (vd := false) (Cn := RX0) (k := 13) C 0 [] [] (c_X0_total (zC_I C) (zC_st C)  q_s2) gX7_carried_X0_total (by decide +kernel) kX13 vc0 rfl rfl dX7_carried_4 rfl ⟨Nat.le_of_ble_eq_true rfl, Nat.le_of_ble_eq_true rfl⟩ rfl (Nat.le_of_ble_eq_true rfl) ?_
  exact z_iret0 C hQ (zRt_of hm).1 (zRt_of hm).2 dX7_carried_7
set_option maxRecDepth 100000 in
set_option maxHeartbeats 4000000 in
theorem c_X7_carried {h : zH} {ad : Nat → Nat} (hI : zI ad zLX.length) (hst : h.1.stackTraces = false) {n : Nat} {s s9 : zS} {r : Int32} (hm : m_X7_carried n s = some (r, s9)) : zMR h ad zLX false yX7_carried wsX7_carried 3 64 [.ref (ad 0)] s (.inl r) s9 :=
  z_start (cc := cX7_carried) (nL := 1) (ret := (some .int)) (own := RX7) (by decide +kernel) rfl rfl hI hst (Nat.le_of_ble_eq_true rfl) (fun G C hQ => w_X7_carried_e C hQ _ hm)
set_option maxRecDepth 100000 in
theorem eX7_carriedAt_uX7 : ∀ w ∈ wsX70, w ∈ wsX7_carriedAt := by decide +kernel
set_option maxRecDepth 100000 in
theorem eX7_carriedAt_f33 : Cond.fieldLink RX7 33 RX7 (TX7 3).2.1 (TX7 3).2.2.1 ∈ wsX7_carriedAt := by decide +kernel
set_option maxRecDepth 100000 in
set_option maxHeartbeats 4000000 in
theorem w_X7_carriedAt_e {h : zH} {ad : Nat → Nat} {G : zG} (C : zC h ad zLX 2 G cX7_carriedAt RX7 wsX7_carriedAt 7 110) {n : Nat} {res : Int32 ⊕ Nat} {s9 : zS} (hQ : zQ h ad zLX G false (res) s9 (some .int)) {v1 : Int32} (s : zS) (hm : m_X7_carriedAt n v1 s = some (res, s9)) : zV h ad zLX 2 G s 0 [(0, .ref (ad 0)), (1, .int v1)] [] := by
  rw [m_X7_carriedAt] at hm
  refine z_iload_n C dX7_carriedAt_0 rfl 1 rfl ?_
  refine z_if_lt (tgt := 19) C dX7_carriedAt_1 (by decide) (fun c1 => ?_) (fun c1 => ?_)
  · have hm := zIt hm c1
    refine z_iconst (v := (0 : Int32)) C dX7_carriedAt_19 (by decide) ?_
    rcases zBx_of hm with h_s3 | ⟨k_s3, q_s3, r_s3⟩
    rotate_left
    · subst r_s3
      exact z_xS (vd := true) C 1 [.int (0 : Int32)] [] (c_X7_checkPlace (zC_I C) (zC_st C)  q_s3) hQ gX7_carriedAt_X7_checkPlace (by decide +kernel) rfl dX7_carriedAt_20 rfl ⟨Nat.le_of_ble_eq_true rfl, Nat.le_of_ble_eq_true rfl⟩ rfl (Nat.le_of_ble_eq_true rfl)
    obtain ⟨x2, s3, q_s3, hm⟩ := h_s3
    refine z_cS (vd := true) C 1 [.int (0 : Int32)] [] (c_X7_checkPlace (zC_I C) (zC_st C)  q_s3) gX7_carriedAt_X7_checkPlace (by decide +kernel) rfl dX7_carriedAt_20 rfl ⟨Nat.le_of_ble_eq_true rfl, Nat.le_of_ble_eq_true rfl⟩ rfl (Nat.le_of_ble_eq_true rfl) ?_
    refine z_aload_n C dX7_carriedAt_23 rfl 0 rfl ?_
    refine z_getr C kX0 vc7 eX7_carriedAt_uX7 3 (by decide) rfl eX7_carriedAt_f33 rfl dX7_carriedAt_24 ?_
    refine z_iload_n C dX7_carriedAt_27 rfl 1 rfl ?_
    obtain ⟨x4, s5, q_s5, hm⟩ := zBd_of hm
    refine z_cV (vd := false) (Cn := RX0) (k := 13) C 1 [.int v1] [] (c_X0_leftAt (zC_I C) (zC_st C)  q_s5) gX7_carriedAt_X0_leftAt (by decide +kernel) kX13 vc0 rfl rfl dX7_carriedAt_28 rfl ⟨Nat.le_of_ble_eq_true rfl, Nat.le_of_ble_eq_true rfl⟩ rfl (Nat.le_of_ble_eq_true rfl) ?_
    exact z_iret0 C hQ (zRx_of hm).1 (zRx_of hm).2 dX7_carriedAt_31
  · have hm := zIf hm c1
    refine z_iload_n C dX7_carriedAt_4 rfl 1 rfl ?_
    refine z_aload_n C dX7_carriedAt_5 rfl 0 rfl ?_
    refine z_getr C kX0 vc7 eX7_carriedAt_uX7 3 (by decide) rfl eX7_carriedAt_f33 rfl dX7_carriedAt_6 ?_
    obtain ⟨x6, s7, q_s7, hm⟩ := zBd_of hm
    refine z_cV (vd := false) (Cn := RX0) (k := 13) C 0 [] [.int v1] (c_X0_size (zC_I C) (zC_st C)  q_s7) gX7_carriedAt_X0_size (by decide +kernel) kX13 vc0 rfl rfl dX7_carriedAt_9 rfl ⟨Nat.le_of_ble_eq_true rfl, Nat.le_of_ble_eq_true rfl⟩ rfl (Nat.le_of_ble_eq_true rfl) ?_
    refine z_icmp_ge (tgt := 19) C dX7_carriedAt_12 (by decide) (fun c8 => ?_) (fun c8 => ?_)
    · have hm := zIt hm c8
      refine z_iconst (v := (0 : Int32)) C dX7_carriedAt_19 (by decide) ?_
      rcases zBx_of hm with h_s10 | ⟨k_s10, q_s10, r_s10⟩
      rotate_left
      · subst r_s10
        exact z_xS (vd := true) C 1 [.int (0 : Int32)] [] (c_X7_checkPlace (zC_I C) (zC_st C)  q_s10) hQ gX7_carriedAt_X7_checkPlace (by decide +kernel) rfl dX7_carriedAt_20 rfl ⟨Nat.le_of_ble_eq_true rfl, Nat.le_of_ble_eq_true rfl⟩ rfl (Nat.le_of_ble_eq_true rfl)
      obtain ⟨x9, s10, q_s10, hm⟩ := h_s10
      refine z_cS (vd := true) C 1 [.int (0 : Int32)] [] (c_X7_checkPlace (zC_I C) (zC_st C)  q_s10) gX7_carriedAt_X7_checkPlace (by decide +kernel) rfl dX7_carriedAt_20 rfl ⟨Nat.le_of_ble_eq_true rfl, Nat.le_of_ble_eq_true rfl⟩ rfl (Nat.le_of_ble_eq_true rfl) ?_
      refine z_aload_n C dX7_carriedAt_23 rfl 0 rfl ?_
      refine z_getr C kX0 vc7 eX7_carriedAt_uX7 3 (by decide) rfl eX7_carriedAt_f33 rfl dX7_carriedAt_24 ?_
      refine z_iload_n C dX7_carriedAt_27 rfl 1 rfl ?_
      obtain ⟨x11, s12, q_s12, hm⟩ := zBd_of hm
      refine z_cV (vd := false) (Cn := RX0) (k := 13) C 1 [.int v1] [] (c_X0_leftAt (zC_I C) (zC_st C)  q_s12) gX7_carriedAt_X0_leftAt (by decide +kernel) kX13 vc0 rfl rfl dX7_carriedAt_28 rfl ⟨Nat.le_of_ble_eq_true rfl, Nat.le_of_ble_eq_true rfl⟩ rfl (Nat.le_of_ble_eq_true rfl) ?_
      exact z_iret0 C hQ (zRx_of hm).1 (zRx_of hm).2 dX7_carriedAt_31
    · have hm := zIf hm c8
      refine z_iconst (v := (1 : Int32)) C dX7_carriedAt_15 (by decide) ?_
      refine z_goto (tgt := 20) C dX7_carriedAt_16 (by decide) ?_
      rcases zBx_of hm with h_s14 | ⟨k_s14, q_s14, r_s14⟩
      rotate_left
      · subst r_s14
        exact z_xS (vd := true) C 1 [.int (1 : Int32)] [] (c_X7_checkPlace (zC_I C) (zC_st C)  q_s14) hQ gX7_carriedAt_X7_checkPlace (by decide +kernel) rfl dX7_carriedAt_20 rfl ⟨Nat.le_of_ble_eq_true rfl, Nat.le_of_ble_eq_true rfl⟩ rfl (Nat.le_of_ble_eq_true rfl)
      obtain ⟨x13, s14, q_s14, hm⟩ := h_s14
      refine z_cS (vd := true) C 1 [.int (1 : Int32)] [] (c_X7_checkPlace (zC_I C) (zC_st C)  q_s14) gX7_carriedAt_X7_checkPlace (by decide +kernel) rfl dX7_carriedAt_20 rfl ⟨Nat.le_of_ble_eq_true rfl, Nat.le_of_ble_eq_true rfl⟩ rfl (Nat.le_of_ble_eq_true rfl) ?_
      refine z_aload_n C dX7_carriedAt_23 rfl 0 rfl ?_
      refine z_getr C kX0 vc7 eX7_carriedAt_uX7 3 (by decide) rfl eX7_carriedAt_f33 rfl dX7_carriedAt_24 ?_
      refine z_iload_n C dX7_carriedAt_27 rfl 1 rfl ?_
      obtain ⟨x15, s16, q_s16, hm⟩ := zBd_of hm
      refine z_cV (vd := false) (Cn := RX0) (k := 13) C 1 [.int v1] [] (c_X0_leftAt (zC_I C) (zC_st C)  q_s16) gX7_carriedAt_X0_leftAt (by decide +kernel) kX13 vc0 rfl rfl dX7_carriedAt_28 rfl ⟨Nat.le_of_ble_eq_true rfl, Nat.le_of_ble_eq_true rfl⟩ rfl (Nat.le_of_ble_eq_true rfl) ?_
      exact z_iret0 C hQ (zRx_of hm).1 (zRx_of hm).2 dX7_carriedAt_31
set_option maxRecDepth 100000 in
set_option maxHeartbeats 4000000 in
theorem c_X7_carriedAt {h : zH} {ad : Nat → Nat} (hI : zI ad zLX.length) (hst : h.1.stackTraces = false) {n : Nat} {v1 : Int32} {s s9 : zS} {res : Int32 ⊕ Nat} (hm : m_X7_carriedAt n v1 s = some (res, s9)) : zMR h ad zLX false yX7_carriedAt wsX7_carriedAt 7 110 [.ref (ad 0), .int v1] s (res) s9 :=
  z_start (cc := cX7_carriedAt) (nL := 2) (ret := (some .int)) (own := RX7) (by decide +kernel) rfl rfl hI hst (Nat.le_of_ble_eq_true rfl) (fun G C hQ => w_X7_carriedAt_e C hQ _ hm)
set_option maxRecDepth 100000 in
theorem eX7_year_uX7 : ∀ w ∈ wsX70, w ∈ wsX7_year := by decide +kernel
set_option maxRecDepth 100000 in
theorem eX7_year_f33 : Cond.fieldLink RX7 33 RX7 (TX7 3).2.1 (TX7 3).2.2.1 ∈ wsX7_year := by decide +kernel
set_option maxRecDepth 100000 in
set_option maxHeartbeats 4000000 in
theorem w_X7_year_e {h : zH} {ad : Nat → Nat} {G : zG} (C : zC h ad zLX 1 G cX7_year RX7 wsX7_year 1 20) {n : Nat} {r : Int32} {s9 : zS} (hQ : zQ h ad zLX G false (.inl r) s9 (some .int))  (s : zS) (hm : m_X7_year n s = some (r, s9)) : zV h ad zLX 1 G s 0 [(0, .ref (ad 0))] [] := by
  rw [m_X7_year] at hm
  refine z_aload_n C dX7_year_0 rfl 0 rfl ?_
  refine z_getr C kX0 vc7 eX7_year_uX7 3 (by decide) rfl eX7_year_f33 rfl dX7_year_1 ?_
  obtain ⟨x1, s2, q_s2, hm⟩ := zBd_of hm
  refine z_cV (vd := false) (Cn := RX0) (k := 13) C 0 [] [] (c_X0_now (zC_I C) (zC_st C)  q_s2) gX7_year_X0_now (by decide +kernel) kX13 vc0 rfl rfl dX7_year_4 rfl ⟨Nat.le_of_ble_eq_true rfl, Nat.le_of_ble_eq_true rfl⟩ rfl (Nat.le_of_ble_eq_true rfl) ?_
  exact z_iret0 C hQ (zRt_of hm).1 (zRt_of hm).2 dX7_year_7
set_option maxRecDepth 100000 in
set_option maxHeartbeats 4000000 in
theorem c_X7_year {h : zH} {ad : Nat → Nat} (hI : zI ad zLX.length) (hst : h.1.stackTraces = false) {n : Nat} {s s9 : zS} {r : Int32} (hm : m_X7_year n s = some (r, s9)) : zMR h ad zLX false yX7_year wsX7_year 1 20 [.ref (ad 0)] s (.inl r) s9 :=
  z_start (cc := cX7_year) (nL := 1) (ret := (some .int)) (own := RX7) (by decide +kernel) rfl rfl hI hst (Nat.le_of_ble_eq_true rfl) (fun G C hQ => w_X7_year_e C hQ _ hm)
set_option maxRecDepth 100000 in
theorem eX7_closeYear_uX7 : ∀ w ∈ wsX70, w ∈ wsX7_closeYear := by decide +kernel
set_option maxRecDepth 100000 in
theorem eX7_closeYear_f33 : Cond.fieldLink RX7 33 RX7 (TX7 3).2.1 (TX7 3).2.2.1 ∈ wsX7_closeYear := by decide +kernel
set_option maxRecDepth 100000 in
theorem eX7_closeYear_f10 : Cond.fieldLink RX7 10 RX7 (TX7 0).2.1 (TX7 0).2.2.1 ∈ wsX7_closeYear := by decide +kernel
set_option maxRecDepth 100000 in
theorem eX7_closeYear_f49 : Cond.fieldLink RX7 49 RX7 (TX7 5).2.1 (TX7 5).2.2.1 ∈ wsX7_closeYear := by decide +kernel
set_option maxRecDepth 100000 in
set_option maxHeartbeats 4000000 in
theorem w_X7_closeYear_j12 {h : zH} {ad : Nat → Nat} {G : zG} (C : zC h ad zLX 3 G cX7_closeYear RX7 wsX7_closeYear 7 163) {n : Nat} {r : Int32} {s9 : zS} (hQ : zQ h ad zLX G false (.inl r) s9 (some .int)) : ∀ (f : Nat) (v1 : Int32) (v2 : Int32) (s : zS), m_X7_closeYear_j12 n f v1 v2 s = some (r, s9) → zV h ad zLX 3 G s 12 [(0, .ref (ad 0)), (1, .int v1), (2, .int v2)] [] := by
  intro f
  induction f with
  | zero => intro v1 v2 s hm; simp [m_X7_closeYear_j12] at hm
  | succ f ih =>
    intro v1 v2 s hm
    rw [m_X7_closeYear_j12] at hm
    refine z_iload_n C dX7_closeYear_12 rfl 2 rfl ?_
    refine z_bipush (v := (16 : Int32)) C dX7_closeYear_13 (by decide) ?_
    refine z_icmp_ge (tgt := 55) C dX7_closeYear_15 (by decide) (fun c1 => ?_) (fun c1 => ?_)
    · have hm := zIt hm c1
      refine z_aload_n C dX7_closeYear_55 rfl 0 rfl ?_
      refine z_getr C kX0 vc7 eX7_closeYear_uX7 3 (by decide) rfl eX7_closeYear_f33 rfl dX7_closeYear_56 ?_
      obtain ⟨x2, s3, q_s3, hm⟩ := zBd_of hm
      refine z_cV (vd := true) (Cn := RX0) (k := 13) C 0 [] [] (c_X0_endYear (zC_I C) (zC_st C)  q_s3) gX7_closeYear_X0_endYear (by decide +kernel) kX13 vc0 rfl rfl dX7_closeYear_59 rfl ⟨Nat.le_of_ble_eq_true rfl, Nat.le_of_ble_eq_true rfl⟩ rfl (Nat.le_of_ble_eq_true rfl) ?_
      refine z_iload_n C dX7_closeYear_62 rfl 1 rfl ?_
      exact z_iret0 C hQ (zRt_of hm).1 (zRt_of hm).2 dX7_closeYear_63
    · have hm := zIf hm c1
      refine z_aload_n C dX7_closeYear_18 rfl 0 rfl ?_
      refine z_getr C kX0 vc7 eX7_closeYear_uX7 0 (by decide) rfl eX7_closeYear_f10 rfl dX7_closeYear_19 ?_
      refine z_iload_n C dX7_closeYear_22 rfl 2 rfl ?_
      obtain ⟨x4, s5, q_s5, hm⟩ := zBd_of hm
      refine z_cV (vd := false) (Cn := RX5) (k := 1) C 1 [.int v2] [] (c_X5_kind (zC_I C) (zC_st C)  q_s5) gX7_closeYear_X5_kind (by decide +kernel) kX1 vc5 rfl rfl dX7_closeYear_23 rfl ⟨Nat.le_of_ble_eq_true rfl, Nat.le_of_ble_eq_true rfl⟩ rfl (Nat.le_of_ble_eq_true rfl) ?_
      refine z_bipush (v := (7 : Int32)) C dX7_closeYear_26 (by decide) ?_
      refine z_icmp_ne (tgt := 49) C dX7_closeYear_28 (by decide) (fun c6 => ?_) (fun c6 => ?_)
      · have hm := zIf hm c6
        obtain ⟨x7, e_x7, hm⟩ := zLt_of hm
        refine z_iinc (j := 2) (v := x7) (d := (1 : Int32)) (lv' := [(2, .int x7), (0, .ref (ad 0)), (1, .int v1)]) C dX7_closeYear_49 rfl (by decide) e_x7 (by decide) rfl ?_
        refine z_goto (tgt := 12) C dX7_closeYear_52 (by decide) ?_
        exact z_sub [1, 2, 0] rfl (ih _ _ _ hm)
      · have hm := zIt hm c6
        refine z_iload_n C dX7_closeYear_31 rfl 1 rfl ?_
        refine z_aload_n C dX7_closeYear_32 rfl 0 rfl ?_
        refine z_getr C kX0 vc7 eX7_closeYear_uX7 3 (by decide) rfl eX7_closeYear_f33 rfl dX7_closeYear_33 ?_
        refine z_aload_n C dX7_closeYear_36 rfl 0 rfl ?_
        refine z_getr C kX0 vc7 eX7_closeYear_uX7 5 (by decide) rfl eX7_closeYear_f49 rfl dX7_closeYear_37 ?_
        refine z_iload_n C dX7_closeYear_40 rfl 2 rfl ?_
        obtain ⟨x8, s9, q_s9, hm⟩ := zBd_of hm
        refine z_cV (vd := false) (Cn := RX6) (k := 21) C 1 [.int v2] [.ref (ad 13), .int v1] (c_X6_of (zC_I C) (zC_st C)  q_s9) gX7_closeYear_X6_of (by decide +kernel) kX21 vc6 rfl rfl dX7_closeYear_41 rfl ⟨Nat.le_of_ble_eq_true rfl, Nat.le_of_ble_eq_true rfl⟩ rfl (Nat.le_of_ble_eq_true rfl) ?_
        obtain ⟨x10, s11, q_s11, hm⟩ := zBd_of hm
        refine z_cV (vd := false) (Cn := RX0) (k := 13) C 1 [.int x8] [.int v1] (c_X0_take (zC_I C) (zC_st C)  q_s11) gX7_closeYear_X0_take (by decide +kernel) kX13 vc0 rfl rfl dX7_closeYear_44 rfl ⟨Nat.le_of_ble_eq_true rfl, Nat.le_of_ble_eq_true rfl⟩ rfl (Nat.le_of_ble_eq_true rfl) ?_
        refine z_iadd C dX7_closeYear_47 ?_
        obtain ⟨x12, e_x12, hm⟩ := zLt_of hm
        refine z_istore_n (y := x12) (lv' := [(1, .int x12), (0, .ref (ad 0)), (2, .int v2)]) C dX7_closeYear_48 rfl (by decide) e_x12 rfl ?_
        obtain ⟨x13, e_x13, hm⟩ := zLt_of hm
        refine z_iinc (j := 2) (v := x13) (d := (1 : Int32)) (lv' := [(2, .int x13), (1, .int x12), (0, .ref (ad 0))]) C dX7_closeYear_49 rfl (by decide) e_x13 (by decide) rfl ?_
        refine z_goto (tgt := 12) C dX7_closeYear_52 (by decide) ?_
        exact z_sub [2, 1, 0] rfl (ih _ _ _ hm)
set_option maxRecDepth 100000 in
set_option maxHeartbeats 4000000 in
theorem w_X7_closeYear_e {h : zH} {ad : Nat → Nat} {G : zG} (C : zC h ad zLX 3 G cX7_closeYear RX7 wsX7_closeYear 7 163) {n : Nat} {r : Int32} {s9 : zS} (hQ : zQ h ad zLX G false (.inl r) s9 (some .int))  (s : zS) (hm : m_X7_closeYear n s = some (r, s9)) : zV h ad zLX 3 G s 0 [(0, .ref (ad 0))] [] := by
  rw [m_X7_closeYear] at hm
  refine z_aload_n C dX7_closeYear_0 rfl 0 rfl ?_
  refine z_getr C kX0 vc7 eX7_closeYear_uX7 5 (by decide) rfl eX7_closeYear_f49 rfl dX7_closeYear_1 ?_
  refine z_iconst (v := (-1 : Int32)) C dX7_closeYear_4 (by decide) ?_
  obtain ⟨x14, s15, q_s15, hm⟩ := zBd_of hm
  refine z_cV (vd := true) (Cn := RX6) (k := 21) C 1 [.int (-1 : Int32)] [] (c_X6_workOut (zC_I C) (zC_st C)  q_s15) gX7_closeYear_X6_workOut (by decide +kernel) kX21 vc6 rfl rfl dX7_closeYear_5 rfl ⟨Nat.le_of_ble_eq_true rfl, Nat.le_of_ble_eq_true rfl⟩ rfl (Nat.le_of_ble_eq_true rfl) ?_
  refine z_iconst (v := (0 : Int32)) C dX7_closeYear_8 (by decide) ?_
  refine z_istore_n (y := (0 : Int32)) (lv' := [(1, .int (0 : Int32)), (0, .ref (ad 0))]) C dX7_closeYear_9 rfl (by decide) rfl rfl ?_
  refine z_iconst (v := (0 : Int32)) C dX7_closeYear_10 (by decide) ?_
  refine z_istore_n (y := (0 : Int32)) (lv' := [(2, .int (0 : Int32)), (1, .int (0 : Int32)), (0, .ref (ad 0))]) C dX7_closeYear_11 rfl (by decide) rfl rfl ?_
  exact z_sub [2, 1, 0] rfl (w_X7_closeYear_j12 C hQ  _ _ _ _ hm)
set_option maxRecDepth 100000 in
set_option maxHeartbeats 4000000 in
theorem c_X7_closeYear {h : zH} {ad : Nat → Nat} (hI : zI ad zLX.length) (hst : h.1.stackTraces = false) {n : Nat} {s s9 : zS} {r : Int32} (hm : m_X7_closeYear n s = some (r, s9)) : zMR h ad zLX false yX7_closeYear wsX7_closeYear 7 163 [.ref (ad 0)] s (.inl r) s9 :=
  z_start (cc := cX7_closeYear) (nL := 3) (ret := (some .int)) (own := RX7) (by decide +kernel) rfl rfl hI hst (Nat.le_of_ble_eq_true rfl) (fun G C hQ => w_X7_closeYear_e C hQ _ hm)
set_option maxRecDepth 100000 in
theorem eX7_addCredit_uX7 : ∀ w ∈ wsX70, w ∈ wsX7_addCredit := by decide +kernel
set_option maxRecDepth 100000 in
theorem eX7_addCredit_f40 : Cond.fieldLink RX7 40 RX7 (TX7 4).2.1 (TX7 4).2.2.1 ∈ wsX7_addCredit := by decide +kernel
set_option maxRecDepth 100000 in
theorem eX7_addCredit_c103 : Cond.constant RX7 103 (1000000 : Int32) ∈ wsX7_addCredit := by decide +kernel
set_option maxRecDepth 100000 in
set_option maxHeartbeats 4000000 in
theorem w_X7_addCredit_j45 {h : zH} {ad : Nat → Nat} {G : zG} (C : zC h ad zLX 3 G cX7_addCredit RX7 wsX7_addCredit 7 110) {n : Nat} {res : Int32 ⊕ Nat} {s9 : zS} (hQ : zQ h ad zLX G false (res) s9 (some .int)) (v1 : Int32) (v2 : Int32) (t0 : Int32) (s : zS) (hm : m_X7_addCredit_j45 n v1 v2 t0 s = some (res, s9)) : zV h ad zLX 3 G s 45 [(0, .ref (ad 0)), (1, .int v1), (2, .int v2)] [.int t0] := by
  rw [m_X7_addCredit_j45] at hm
  rcases zBx_of hm with h_s2 | ⟨k_s2, q_s2, r_s2⟩
  rotate_left
  · subst r_s2
    exact z_xS (vd := true) C 1 [.int t0] [] (c_X7_checkState (zC_I C) (zC_st C)  q_s2) hQ gX7_addCredit_X7_checkState (by decide +kernel) rfl dX7_addCredit_45 rfl ⟨Nat.le_of_ble_eq_true rfl, Nat.le_of_ble_eq_true rfl⟩ rfl (Nat.le_of_ble_eq_true rfl)
  obtain ⟨x1, s2, q_s2, hm⟩ := h_s2
  refine z_cS (vd := true) C 1 [.int t0] [] (c_X7_checkState (zC_I C) (zC_st C)  q_s2) gX7_addCredit_X7_checkState (by decide +kernel) rfl dX7_addCredit_45 rfl ⟨Nat.le_of_ble_eq_true rfl, Nat.le_of_ble_eq_true rfl⟩ rfl (Nat.le_of_ble_eq_true rfl) ?_
  refine z_aload_n C dX7_addCredit_48 rfl 0 rfl ?_
  refine z_getr C kX0 vc7 eX7_addCredit_uX7 4 (by decide) rfl eX7_addCredit_f40 rfl dX7_addCredit_49 ?_
  refine z_iload_n C dX7_addCredit_52 rfl 1 rfl ?_
  refine z_iload_n C dX7_addCredit_53 rfl 2 rfl ?_
  obtain ⟨x3, s4, q_s4, hm⟩ := zBd_of hm
  refine z_cV (vd := true) (Cn := RX2) (k := 16) C 2 [.int v1, .int v2] [] (c_X2_add (zC_I C) (zC_st C)  q_s4) gX7_addCredit_X2_add (by decide +kernel) kX16 vc2 rfl rfl dX7_addCredit_54 rfl ⟨Nat.le_of_ble_eq_true rfl, Nat.le_of_ble_eq_true rfl⟩ rfl (Nat.le_of_ble_eq_true rfl) ?_
  refine z_aload_n C dX7_addCredit_57 rfl 0 rfl ?_
  refine z_getr C kX0 vc7 eX7_addCredit_uX7 4 (by decide) rfl eX7_addCredit_f40 rfl dX7_addCredit_58 ?_
  obtain ⟨x5, s6, q_s6, hm⟩ := zBd_of hm
  refine z_cV (vd := false) (Cn := RX2) (k := 16) C 0 [] [] (c_X2_size (zC_I C) (zC_st C)  q_s6) gX7_addCredit_X2_size (by decide +kernel) kX16 vc2 rfl rfl dX7_addCredit_61 rfl ⟨Nat.le_of_ble_eq_true rfl, Nat.le_of_ble_eq_true rfl⟩ rfl (Nat.le_of_ble_eq_true rfl) ?_
  refine z_iconst (v := (1 : Int32)) C dX7_addCredit_64 (by decide) ?_
  refine z_isub C dX7_addCredit_65 ?_
  exact z_iret0 C hQ (zRx_of hm).1 (zRx_of hm).2 dX7_addCredit_66
set_option maxRecDepth 100000 in
set_option maxHeartbeats 4000000 in
theorem w_X7_addCredit_j26 {h : zH} {ad : Nat → Nat} {G : zG} (C : zC h ad zLX 3 G cX7_addCredit RX7 wsX7_addCredit 7 110) {n : Nat} {res : Int32 ⊕ Nat} {s9 : zS} (hQ : zQ h ad zLX G false (res) s9 (some .int)) (v1 : Int32) (v2 : Int32) (t0 : Int32) (s : zS) (hm : m_X7_addCredit_j26 n v1 v2 t0 s = some (res, s9)) : zV h ad zLX 3 G s 26 [(0, .ref (ad 0)), (1, .int v1), (2, .int v2)] [.int t0] := by
  rw [m_X7_addCredit_j26] at hm
  rcases zBx_of hm with h_s8 | ⟨k_s8, q_s8, r_s8⟩
  rotate_left
  · subst r_s8
    exact z_xS (vd := true) C 1 [.int t0] [] (c_X7_checkArgument (zC_I C) (zC_st C)  q_s8) hQ gX7_addCredit_X7_checkArgument (by decide +kernel) rfl dX7_addCredit_26 rfl ⟨Nat.le_of_ble_eq_true rfl, Nat.le_of_ble_eq_true rfl⟩ rfl (Nat.le_of_ble_eq_true rfl)
  obtain ⟨x7, s8, q_s8, hm⟩ := h_s8
  refine z_cS (vd := true) C 1 [.int t0] [] (c_X7_checkArgument (zC_I C) (zC_st C)  q_s8) gX7_addCredit_X7_checkArgument (by decide +kernel) rfl dX7_addCredit_26 rfl ⟨Nat.le_of_ble_eq_true rfl, Nat.le_of_ble_eq_true rfl⟩ rfl (Nat.le_of_ble_eq_true rfl) ?_
  refine z_aload_n C dX7_addCredit_29 rfl 0 rfl ?_
  refine z_getr C kX0 vc7 eX7_addCredit_uX7 4 (by decide) rfl eX7_addCredit_f40 rfl dX7_addCredit_30 ?_
  obtain ⟨x9, s10, q_s10, hm⟩ := zBd_of hm
  refine z_cV (vd := false) (Cn := RX2) (k := 16) C 0 [] [] (c_X2_size (zC_I C) (zC_st C)  q_s10) gX7_addCredit_X2_size (by decide +kernel) kX16 vc2 rfl rfl dX7_addCredit_33 rfl ⟨Nat.le_of_ble_eq_true rfl, Nat.le_of_ble_eq_true rfl⟩ rfl (Nat.le_of_ble_eq_true rfl) ?_
  refine z_iconst (v := (5 : Int32)) C dX7_addCredit_36 (by decide) ?_
  refine z_icmp_ge (tgt := 44) C dX7_addCredit_37 (by decide) (fun c11 => ?_) (fun c11 => ?_)
  · have hm := zIt hm c11
    refine z_iconst (v := (0 : Int32)) C dX7_addCredit_44 (by decide) ?_
    exact z_sub [0, 1, 2] rfl (w_X7_addCredit_j45 C hQ  _ _ _ _ hm)
  · have hm := zIf hm c11
    refine z_iconst (v := (1 : Int32)) C dX7_addCredit_40 (by decide) ?_
    refine z_goto (tgt := 45) C dX7_addCredit_41 (by decide) ?_
    exact z_sub [0, 1, 2] rfl (w_X7_addCredit_j45 C hQ  _ _ _ _ hm)
set_option maxRecDepth 100000 in
set_option maxHeartbeats 4000000 in
theorem w_X7_addCredit_e {h : zH} {ad : Nat → Nat} {G : zG} (C : zC h ad zLX 3 G cX7_addCredit RX7 wsX7_addCredit 7 110) {n : Nat} {res : Int32 ⊕ Nat} {s9 : zS} (hQ : zQ h ad zLX G false (res) s9 (some .int)) {v1 : Int32} {v2 : Int32} (s : zS) (hm : m_X7_addCredit n v1 v2 s = some (res, s9)) : zV h ad zLX 3 G s 0 [(0, .ref (ad 0)), (1, .int v1), (2, .int v2)] [] := by
  rw [m_X7_addCredit] at hm
  refine z_iload_n C dX7_addCredit_0 rfl 1 rfl ?_
  refine z_iconst (v := (1 : Int32)) C dX7_addCredit_1 (by decide) ?_
  refine z_ldc (v := (1000000 : Int32)) C eX7_addCredit_c103 dX7_addCredit_2 ?_
  obtain ⟨x12, s13, q_s13, hm⟩ := zBd_of hm
  refine z_cS (vd := false) C 3 [.int v1, .int (1 : Int32), .int (1000000 : Int32)] [] (c_X7_isWithin (zC_I C) (zC_st C)  q_s13) gX7_addCredit_X7_isWithin (by decide +kernel) rfl dX7_addCredit_4 rfl ⟨Nat.le_of_ble_eq_true rfl, Nat.le_of_ble_eq_true rfl⟩ rfl (Nat.le_of_ble_eq_true rfl) ?_
  refine z_if_eq (tgt := 25) C dX7_addCredit_7 (by decide) (fun c14 => ?_) (fun c14 => ?_)
  · have hm := zIt hm c14
    refine z_iconst (v := (0 : Int32)) C dX7_addCredit_25 (by decide) ?_
    exact z_sub [0, 1, 2] rfl (w_X7_addCredit_j26 C hQ  _ _ _ _ hm)
  · have hm := zIf hm c14
    refine z_iload_n C dX7_addCredit_10 rfl 2 rfl ?_
    refine z_iconst (v := (0 : Int32)) C dX7_addCredit_11 (by decide) ?_
    refine z_sipush (v := (1000 : Int32)) C dX7_addCredit_12 (by decide) ?_
    obtain ⟨x15, s16, q_s16, hm⟩ := zBd_of hm
    refine z_cS (vd := false) C 3 [.int v2, .int (0 : Int32), .int (1000 : Int32)] [] (c_X7_isWithin (zC_I C) (zC_st C)  q_s16) gX7_addCredit_X7_isWithin (by decide +kernel) rfl dX7_addCredit_15 rfl ⟨Nat.le_of_ble_eq_true rfl, Nat.le_of_ble_eq_true rfl⟩ rfl (Nat.le_of_ble_eq_true rfl) ?_
    refine z_if_eq (tgt := 25) C dX7_addCredit_18 (by decide) (fun c17 => ?_) (fun c17 => ?_)
    · have hm := zIt hm c17
      refine z_iconst (v := (0 : Int32)) C dX7_addCredit_25 (by decide) ?_
      exact z_sub [0, 1, 2] rfl (w_X7_addCredit_j26 C hQ  _ _ _ _ hm)
    · have hm := zIf hm c17
      refine z_iconst (v := (1 : Int32)) C dX7_addCredit_21 (by decide) ?_
      refine z_goto (tgt := 26) C dX7_addCredit_22 (by decide) ?_
      exact z_sub [0, 1, 2] rfl (w_X7_addCredit_j26 C hQ  _ _ _ _ hm)
set_option maxRecDepth 100000 in
set_option maxHeartbeats 4000000 in
theorem c_X7_addCredit {h : zH} {ad : Nat → Nat} (hI : zI ad zLX.length) (hst : h.1.stackTraces = false) {n : Nat} {v1 : Int32} {v2 : Int32} {s s9 : zS} {res : Int32 ⊕ Nat} (hm : m_X7_addCredit n v1 v2 s = some (res, s9)) : zMR h ad zLX false yX7_addCredit wsX7_addCredit 7 110 [.ref (ad 0), .int v1, .int v2] s (res) s9 :=
  z_start (cc := cX7_addCredit) (nL := 3) (ret := (some .int)) (own := RX7) (by decide +kernel) rfl rfl hI hst (Nat.le_of_ble_eq_true rfl) (fun G C hQ => w_X7_addCredit_e C hQ _ hm)
set_option maxRecDepth 100000 in
theorem eX7_dropCredit_uX7 : ∀ w ∈ wsX70, w ∈ wsX7_dropCredit := by decide +kernel
set_option maxRecDepth 100000 in
theorem eX7_dropCredit_f40 : Cond.fieldLink RX7 40 RX7 (TX7 4).2.1 (TX7 4).2.2.1 ∈ wsX7_dropCredit := by decide +kernel
set_option maxRecDepth 100000 in
set_option maxHeartbeats 4000000 in
theorem w_X7_dropCredit_e {h : zH} {ad : Nat → Nat} {G : zG} (C : zC h ad zLX 1 G cX7_dropCredit RX7 wsX7_dropCredit 7 110) {n : Nat} {res : Int32 ⊕ Nat} {s9 : zS} (hQ : zQ h ad zLX G false (res) s9 (some .int))  (s : zS) (hm : m_X7_dropCredit n s = some (res, s9)) : zV h ad zLX 1 G s 0 [(0, .ref (ad 0))] [] := by
  rw [m_X7_dropCredit] at hm
  refine z_aload_n C dX7_dropCredit_0 rfl 0 rfl ?_
  refine z_getr C kX0 vc7 eX7_dropCredit_uX7 4 (by decide) rfl eX7_dropCredit_f40 rfl dX7_dropCredit_1 ?_
  obtain ⟨x1, s2, q_s2, hm⟩ := zBd_of hm
  refine z_cV (vd := false) (Cn := RX2) (k := 16) C 0 [] [] (c_X2_size (zC_I C) (zC_st C)  q_s2) gX7_dropCredit_X2_size (by decide +kernel) kX16 vc2 rfl rfl dX7_dropCredit_4 rfl ⟨Nat.le_of_ble_eq_true rfl, Nat.le_of_ble_eq_true rfl⟩ rfl (Nat.le_of_ble_eq_true rfl) ?_
  refine z_if_le (tgt := 14) C dX7_dropCredit_7 (by decide) (fun c3 => ?_) (fun c3 => ?_)
  · have hm := zIt hm c3
    refine z_iconst (v := (0 : Int32)) C dX7_dropCredit_14 (by decide) ?_
    rcases zBx_of hm with h_s5 | ⟨k_s5, q_s5, r_s5⟩
    rotate_left
    · subst r_s5
      exact z_xS (vd := true) C 1 [.int (0 : Int32)] [] (c_X7_checkState (zC_I C) (zC_st C)  q_s5) hQ gX7_dropCredit_X7_checkState (by decide +kernel) rfl dX7_dropCredit_15 rfl ⟨Nat.le_of_ble_eq_true rfl, Nat.le_of_ble_eq_true rfl⟩ rfl (Nat.le_of_ble_eq_true rfl)
    obtain ⟨x4, s5, q_s5, hm⟩ := h_s5
    refine z_cS (vd := true) C 1 [.int (0 : Int32)] [] (c_X7_checkState (zC_I C) (zC_st C)  q_s5) gX7_dropCredit_X7_checkState (by decide +kernel) rfl dX7_dropCredit_15 rfl ⟨Nat.le_of_ble_eq_true rfl, Nat.le_of_ble_eq_true rfl⟩ rfl (Nat.le_of_ble_eq_true rfl) ?_
    refine z_aload_n C dX7_dropCredit_18 rfl 0 rfl ?_
    refine z_getr C kX0 vc7 eX7_dropCredit_uX7 4 (by decide) rfl eX7_dropCredit_f40 rfl dX7_dropCredit_19 ?_
    obtain ⟨x6, s7, q_s7, hm⟩ := zBd_of hm
    refine z_cV (vd := true) (Cn := RX2) (k := 16) C 0 [] [] (c_X2_dropLast (zC_I C) (zC_st C)  q_s7) gX7_dropCredit_X2_dropLast (by decide +kernel) kX16 vc2 rfl rfl dX7_dropCredit_22 rfl ⟨Nat.le_of_ble_eq_true rfl, Nat.le_of_ble_eq_true rfl⟩ rfl (Nat.le_of_ble_eq_true rfl) ?_
    refine z_aload_n C dX7_dropCredit_25 rfl 0 rfl ?_
    refine z_getr C kX0 vc7 eX7_dropCredit_uX7 4 (by decide) rfl eX7_dropCredit_f40 rfl dX7_dropCredit_26 ?_
    obtain ⟨x8, s9, q_s9, hm⟩ := zBd_of hm
    refine z_cV (vd := false) (Cn := RX2) (k := 16) C 0 [] [] (c_X2_size (zC_I C) (zC_st C)  q_s9) gX7_dropCredit_X2_size (by decide +kernel) kX16 vc2 rfl rfl dX7_dropCredit_29 rfl ⟨Nat.le_of_ble_eq_true rfl, Nat.le_of_ble_eq_true rfl⟩ rfl (Nat.le_of_ble_eq_true rfl) ?_
    exact z_iret0 C hQ (zRx_of hm).1 (zRx_of hm).2 dX7_dropCredit_32
  · have hm := zIf hm c3
    refine z_iconst (v := (1 : Int32)) C dX7_dropCredit_10 (by decide) ?_
    refine z_goto (tgt := 15) C dX7_dropCredit_11 (by decide) ?_
    rcases zBx_of hm with h_s11 | ⟨k_s11, q_s11, r_s11⟩
    rotate_left
    · subst r_s11
      exact z_xS (vd := true) C 1 [.int (1 : Int32)] [] (c_X7_checkState (zC_I C) (zC_st C)  q_s11) hQ gX7_dropCredit_X7_checkState (by decide +kernel) rfl dX7_dropCredit_15 rfl ⟨Nat.le_of_ble_eq_true rfl, Nat.le_of_ble_eq_true rfl⟩ rfl (Nat.le_of_ble_eq_true rfl)
    obtain ⟨x10, s11, q_s11, hm⟩ := h_s11
    refine z_cS (vd := true) C 1 [.int (1 : Int32)] [] (c_X7_checkState (zC_I C) (zC_st C)  q_s11) gX7_dropCredit_X7_checkState (by decide +kernel) rfl dX7_dropCredit_15 rfl ⟨Nat.le_of_ble_eq_true rfl, Nat.le_of_ble_eq_true rfl⟩ rfl (Nat.le_of_ble_eq_true rfl) ?_
    refine z_aload_n C dX7_dropCredit_18 rfl 0 rfl ?_
    refine z_getr C kX0 vc7 eX7_dropCredit_uX7 4 (by decide) rfl eX7_dropCredit_f40 rfl dX7_dropCredit_19 ?_
    obtain ⟨x12, s13, q_s13, hm⟩ := zBd_of hm
    refine z_cV (vd := true) (Cn := RX2) (k := 16) C 0 [] [] (c_X2_dropLast (zC_I C) (zC_st C)  q_s13) gX7_dropCredit_X2_dropLast (by decide +kernel) kX16 vc2 rfl rfl dX7_dropCredit_22 rfl ⟨Nat.le_of_ble_eq_true rfl, Nat.le_of_ble_eq_true rfl⟩ rfl (Nat.le_of_ble_eq_true rfl) ?_
    refine z_aload_n C dX7_dropCredit_25 rfl 0 rfl ?_
    refine z_getr C kX0 vc7 eX7_dropCredit_uX7 4 (by decide) rfl eX7_dropCredit_f40 rfl dX7_dropCredit_26 ?_
    obtain ⟨x14, s15, q_s15, hm⟩ := zBd_of hm
    refine z_cV (vd := false) (Cn := RX2) (k := 16) C 0 [] [] (c_X2_size (zC_I C) (zC_st C)  q_s15) gX7_dropCredit_X2_size (by decide +kernel) kX16 vc2 rfl rfl dX7_dropCredit_29 rfl ⟨Nat.le_of_ble_eq_true rfl, Nat.le_of_ble_eq_true rfl⟩ rfl (Nat.le_of_ble_eq_true rfl) ?_
    exact z_iret0 C hQ (zRx_of hm).1 (zRx_of hm).2 dX7_dropCredit_32
set_option maxRecDepth 100000 in
set_option maxHeartbeats 4000000 in
theorem c_X7_dropCredit {h : zH} {ad : Nat → Nat} (hI : zI ad zLX.length) (hst : h.1.stackTraces = false) {n : Nat} {s s9 : zS} {res : Int32 ⊕ Nat} (hm : m_X7_dropCredit n s = some (res, s9)) : zMR h ad zLX false yX7_dropCredit wsX7_dropCredit 7 110 [.ref (ad 0)] s (res) s9 :=
  z_start (cc := cX7_dropCredit) (nL := 1) (ret := (some .int)) (own := RX7) (by decide +kernel) rfl rfl hI hst (Nat.le_of_ble_eq_true rfl) (fun G C hQ => w_X7_dropCredit_e C hQ _ hm)
set_option maxRecDepth 100000 in
theorem eX7_creditAt_uX7 : ∀ w ∈ wsX70, w ∈ wsX7_creditAt := by decide +kernel
set_option maxRecDepth 100000 in
theorem eX7_creditAt_f49 : Cond.fieldLink RX7 49 RX7 (TX7 5).2.1 (TX7 5).2.2.1 ∈ wsX7_creditAt := by decide +kernel
set_option maxRecDepth 100000 in
theorem eX7_creditAt_f40 : Cond.fieldLink RX7 40 RX7 (TX7 4).2.1 (TX7 4).2.2.1 ∈ wsX7_creditAt := by decide +kernel
set_option maxRecDepth 100000 in
set_option maxHeartbeats 4000000 in
theorem w_X7_creditAt_j24 {h : zH} {ad : Nat → Nat} {G : zG} (C : zC h ad zLX 3 G cX7_creditAt RX7 wsX7_creditAt 8 163) {n : Nat} {res : Int32 ⊕ Nat} {s9 : zS} (hQ : zQ h ad zLX G false (res) s9 (some .int)) (v1 : Int32) (v2 : Int32) (t0 : Int32) (s : zS) (hm : m_X7_creditAt_j24 n v1 v2 t0 s = some (res, s9)) : zV h ad zLX 3 G s 24 [(0, .ref (ad 0)), (1, .int v1), (2, .int v2)] [.int t0] := by
  rw [m_X7_creditAt_j24] at hm
  rcases zBx_of hm with h_s2 | ⟨k_s2, q_s2, r_s2⟩
  rotate_left
  · subst r_s2
    exact z_xS (vd := true) C 1 [.int t0] [] (c_X7_checkPlace (zC_I C) (zC_st C)  q_s2) hQ gX7_creditAt_X7_checkPlace (by decide +kernel) rfl dX7_creditAt_24 rfl ⟨Nat.le_of_ble_eq_true rfl, Nat.le_of_ble_eq_true rfl⟩ rfl (Nat.le_of_ble_eq_true rfl)
  obtain ⟨x1, s2, q_s2, hm⟩ := h_s2
  refine z_cS (vd := true) C 1 [.int t0] [] (c_X7_checkPlace (zC_I C) (zC_st C)  q_s2) gX7_creditAt_X7_checkPlace (by decide +kernel) rfl dX7_creditAt_24 rfl ⟨Nat.le_of_ble_eq_true rfl, Nat.le_of_ble_eq_true rfl⟩ rfl (Nat.le_of_ble_eq_true rfl) ?_
  refine z_aload_n C dX7_creditAt_27 rfl 0 rfl ?_
  refine z_getr C kX0 vc7 eX7_creditAt_uX7 5 (by decide) rfl eX7_creditAt_f49 rfl dX7_creditAt_28 ?_
  refine z_iconst (v := (-1 : Int32)) C dX7_creditAt_31 (by decide) ?_
  obtain ⟨x3, s4, q_s4, hm⟩ := zBd_of hm
  refine z_cV (vd := true) (Cn := RX6) (k := 21) C 1 [.int (-1 : Int32)] [] (c_X6_workOut (zC_I C) (zC_st C)  q_s4) gX7_creditAt_X6_workOut (by decide +kernel) kX21 vc6 rfl rfl dX7_creditAt_32 rfl ⟨Nat.le_of_ble_eq_true rfl, Nat.le_of_ble_eq_true rfl⟩ rfl (Nat.le_of_ble_eq_true rfl) ?_
  refine z_aload_n C dX7_creditAt_35 rfl 0 rfl ?_
  refine z_getr C kX0 vc7 eX7_creditAt_uX7 4 (by decide) rfl eX7_creditAt_f40 rfl dX7_creditAt_36 ?_
  refine z_aload_n C dX7_creditAt_39 rfl 0 rfl ?_
  refine z_getr C kX0 vc7 eX7_creditAt_uX7 5 (by decide) rfl eX7_creditAt_f49 rfl dX7_creditAt_40 ?_
  refine z_iload_n C dX7_creditAt_43 rfl 1 rfl ?_
  obtain ⟨x5, s6, q_s6, hm⟩ := zBd_of hm
  refine z_cV (vd := false) (Cn := RX6) (k := 21) C 1 [.int v1] [.ref (ad 16)] (c_X6_of (zC_I C) (zC_st C)  q_s6) gX7_creditAt_X6_of (by decide +kernel) kX21 vc6 rfl rfl dX7_creditAt_44 rfl ⟨Nat.le_of_ble_eq_true rfl, Nat.le_of_ble_eq_true rfl⟩ rfl (Nat.le_of_ble_eq_true rfl) ?_
  obtain ⟨x7, s8, q_s8, hm⟩ := zBd_of hm
  refine z_cV (vd := false) (Cn := RX2) (k := 16) C 1 [.int x5] [] (c_X2_findBest (zC_I C) (zC_st C)  q_s8) gX7_creditAt_X2_findBest (by decide +kernel) kX16 vc2 rfl rfl dX7_creditAt_47 rfl ⟨Nat.le_of_ble_eq_true rfl, Nat.le_of_ble_eq_true rfl⟩ rfl (Nat.le_of_ble_eq_true rfl) ?_
  refine z_pop C dX7_creditAt_50 rfl ?_
  refine z_aload_n C dX7_creditAt_51 rfl 0 rfl ?_
  refine z_getr C kX0 vc7 eX7_creditAt_uX7 4 (by decide) rfl eX7_creditAt_f40 rfl dX7_creditAt_52 ?_
  refine z_iload_n C dX7_creditAt_55 rfl 2 rfl ?_
  obtain ⟨x9, s10, q_s10, hm⟩ := zBd_of hm
  refine z_cV (vd := false) (Cn := RX2) (k := 16) C 1 [.int v2] [] (c_X2_bestAt (zC_I C) (zC_st C)  q_s10) gX7_creditAt_X2_bestAt (by decide +kernel) kX16 vc2 rfl rfl dX7_creditAt_56 rfl ⟨Nat.le_of_ble_eq_true rfl, Nat.le_of_ble_eq_true rfl⟩ rfl (Nat.le_of_ble_eq_true rfl) ?_
  exact z_iret0 C hQ (zRx_of hm).1 (zRx_of hm).2 dX7_creditAt_59
set_option maxRecDepth 100000 in
set_option maxHeartbeats 4000000 in
theorem w_X7_creditAt_e {h : zH} {ad : Nat → Nat} {G : zG} (C : zC h ad zLX 3 G cX7_creditAt RX7 wsX7_creditAt 8 163) {n : Nat} {res : Int32 ⊕ Nat} {s9 : zS} (hQ : zQ h ad zLX G false (res) s9 (some .int)) {v1 : Int32} {v2 : Int32} (s : zS) (hm : m_X7_creditAt n v1 v2 s = some (res, s9)) : zV h ad zLX 3 G s 0 [(0, .ref (ad 0)), (1, .int v1), (2, .int v2)] [] := by
  rw [m_X7_creditAt] at hm
  refine z_iload_n C dX7_creditAt_0 rfl 1 rfl ?_
  rcases zBx_of hm with h_s12 | ⟨k_s12, q_s12, r_s12⟩
  rotate_left
  · subst r_s12
    exact z_xS (vd := true) C 1 [.int v1] [] (c_X7_checkLine (zC_I C) (zC_st C)  q_s12) hQ gX7_creditAt_X7_checkLine (by decide +kernel) rfl dX7_creditAt_1 rfl ⟨Nat.le_of_ble_eq_true rfl, Nat.le_of_ble_eq_true rfl⟩ rfl (Nat.le_of_ble_eq_true rfl)
  obtain ⟨x11, s12, q_s12, hm⟩ := h_s12
  refine z_cS (vd := true) C 1 [.int v1] [] (c_X7_checkLine (zC_I C) (zC_st C)  q_s12) gX7_creditAt_X7_checkLine (by decide +kernel) rfl dX7_creditAt_1 rfl ⟨Nat.le_of_ble_eq_true rfl, Nat.le_of_ble_eq_true rfl⟩ rfl (Nat.le_of_ble_eq_true rfl) ?_
  refine z_iload_n C dX7_creditAt_4 rfl 2 rfl ?_
  refine z_if_lt (tgt := 23) C dX7_creditAt_5 (by decide) (fun c13 => ?_) (fun c13 => ?_)
  · have hm := zIt hm c13
    refine z_iconst (v := (0 : Int32)) C dX7_creditAt_23 (by decide) ?_
    exact z_sub [0, 1, 2] rfl (w_X7_creditAt_j24 C hQ  _ _ _ _ hm)
  · have hm := zIf hm c13
    refine z_iload_n C dX7_creditAt_8 rfl 2 rfl ?_
    refine z_aload_n C dX7_creditAt_9 rfl 0 rfl ?_
    refine z_getr C kX0 vc7 eX7_creditAt_uX7 4 (by decide) rfl eX7_creditAt_f40 rfl dX7_creditAt_10 ?_
    obtain ⟨x14, s15, q_s15, hm⟩ := zBd_of hm
    refine z_cV (vd := false) (Cn := RX2) (k := 16) C 0 [] [.int v2] (c_X2_size (zC_I C) (zC_st C)  q_s15) gX7_creditAt_X2_size (by decide +kernel) kX16 vc2 rfl rfl dX7_creditAt_13 rfl ⟨Nat.le_of_ble_eq_true rfl, Nat.le_of_ble_eq_true rfl⟩ rfl (Nat.le_of_ble_eq_true rfl) ?_
    refine z_icmp_ge (tgt := 23) C dX7_creditAt_16 (by decide) (fun c16 => ?_) (fun c16 => ?_)
    · have hm := zIt hm c16
      refine z_iconst (v := (0 : Int32)) C dX7_creditAt_23 (by decide) ?_
      exact z_sub [0, 1, 2] rfl (w_X7_creditAt_j24 C hQ  _ _ _ _ hm)
    · have hm := zIf hm c16
      refine z_iconst (v := (1 : Int32)) C dX7_creditAt_19 (by decide) ?_
      refine z_goto (tgt := 24) C dX7_creditAt_20 (by decide) ?_
      exact z_sub [0, 1, 2] rfl (w_X7_creditAt_j24 C hQ  _ _ _ _ hm)
set_option maxRecDepth 100000 in
set_option maxHeartbeats 4000000 in
theorem c_X7_creditAt {h : zH} {ad : Nat → Nat} (hI : zI ad zLX.length) (hst : h.1.stackTraces = false) {n : Nat} {v1 : Int32} {v2 : Int32} {s s9 : zS} {res : Int32 ⊕ Nat} (hm : m_X7_creditAt n v1 v2 s = some (res, s9)) : zMR h ad zLX false yX7_creditAt wsX7_creditAt 8 163 [.ref (ad 0), .int v1, .int v2] s (res) s9 :=
  z_start (cc := cX7_creditAt) (nL := 3) (ret := (some .int)) (own := RX7) (by decide +kernel) rfl rfl hI hst (Nat.le_of_ble_eq_true rfl) (fun G C hQ => w_X7_creditAt_e C hQ _ hm)
set_option maxRecDepth 100000 in
theorem eX7_afterCredits_uX7 : ∀ w ∈ wsX70, w ∈ wsX7_afterCredits := by decide +kernel
set_option maxRecDepth 100000 in
theorem eX7_afterCredits_f49 : Cond.fieldLink RX7 49 RX7 (TX7 5).2.1 (TX7 5).2.2.1 ∈ wsX7_afterCredits := by decide +kernel
set_option maxRecDepth 100000 in
theorem eX7_afterCredits_f40 : Cond.fieldLink RX7 40 RX7 (TX7 4).2.1 (TX7 4).2.2.1 ∈ wsX7_afterCredits := by decide +kernel
set_option maxRecDepth 100000 in
theorem eX7_afterCredits_l190 : Cond.methodLink RX7 190 Lib.Math.min.name ∈ wsX7_afterCredits := by decide +kernel
set_option maxRecDepth 100000 in
theorem eX7_afterCredits_stmin : Cond.static Lib.Math.min.name ∈ wsX7_afterCredits := by decide +kernel
set_option maxRecDepth 100000 in
theorem eX7_afterCredits_im : Cond.initialized "java/lang/Math" ∈ wsX7_afterCredits := by decide +kernel
set_option maxRecDepth 100000 in
theorem eX7_afterCredits_cmmin : Cond.code Lib.Math.min.name Lib.Math.min.code 2 (some .int) ∈ wsX7_afterCredits := by decide +kernel
set_option maxRecDepth 100000 in
set_option maxHeartbeats 4000000 in
theorem w_X7_afterCredits_e {h : zH} {ad : Nat → Nat} {G : zG} (C : zC h ad zLX 3 G cX7_afterCredits RX7 wsX7_afterCredits 8 163) {n : Nat} {res : Int32 ⊕ Nat} {s9 : zS} (hQ : zQ h ad zLX G false (res) s9 (some .int)) {v1 : Int32} (s : zS) (hm : m_X7_afterCredits n v1 s = some (res, s9)) : zV h ad zLX 3 G s 0 [(0, .ref (ad 0)), (1, .int v1)] [] := by
  rw [m_X7_afterCredits] at hm
  refine z_iload_n C dX7_afterCredits_0 rfl 1 rfl ?_
  rcases zBx_of hm with h_s2 | ⟨k_s2, q_s2, r_s2⟩
  rotate_left
  · subst r_s2
    exact z_xS (vd := true) C 1 [.int v1] [] (c_X7_checkLine (zC_I C) (zC_st C)  q_s2) hQ gX7_afterCredits_X7_checkLine (by decide +kernel) rfl dX7_afterCredits_1 rfl ⟨Nat.le_of_ble_eq_true rfl, Nat.le_of_ble_eq_true rfl⟩ rfl (Nat.le_of_ble_eq_true rfl)
  obtain ⟨x1, s2, q_s2, hm⟩ := h_s2
  refine z_cS (vd := true) C 1 [.int v1] [] (c_X7_checkLine (zC_I C) (zC_st C)  q_s2) gX7_afterCredits_X7_checkLine (by decide +kernel) rfl dX7_afterCredits_1 rfl ⟨Nat.le_of_ble_eq_true rfl, Nat.le_of_ble_eq_true rfl⟩ rfl (Nat.le_of_ble_eq_true rfl) ?_
  refine z_aload_n C dX7_afterCredits_4 rfl 0 rfl ?_
  refine z_getr C kX0 vc7 eX7_afterCredits_uX7 5 (by decide) rfl eX7_afterCredits_f49 rfl dX7_afterCredits_5 ?_
  refine z_iconst (v := (-1 : Int32)) C dX7_afterCredits_8 (by decide) ?_
  obtain ⟨x3, s4, q_s4, hm⟩ := zBd_of hm
  refine z_cV (vd := true) (Cn := RX6) (k := 21) C 1 [.int (-1 : Int32)] [] (c_X6_workOut (zC_I C) (zC_st C)  q_s4) gX7_afterCredits_X6_workOut (by decide +kernel) kX21 vc6 rfl rfl dX7_afterCredits_9 rfl ⟨Nat.le_of_ble_eq_true rfl, Nat.le_of_ble_eq_true rfl⟩ rfl (Nat.le_of_ble_eq_true rfl) ?_
  refine z_aload_n C dX7_afterCredits_12 rfl 0 rfl ?_
  refine z_getr C kX0 vc7 eX7_afterCredits_uX7 5 (by decide) rfl eX7_afterCredits_f49 rfl dX7_afterCredits_13 ?_
  refine z_iload_n C dX7_afterCredits_16 rfl 1 rfl ?_
  obtain ⟨x5, s6, q_s6, hm⟩ := zBd_of hm
  refine z_cV (vd := false) (Cn := RX6) (k := 21) C 1 [.int v1] [] (c_X6_of (zC_I C) (zC_st C)  q_s6) gX7_afterCredits_X6_of (by decide +kernel) kX21 vc6 rfl rfl dX7_afterCredits_17 rfl ⟨Nat.le_of_ble_eq_true rfl, Nat.le_of_ble_eq_true rfl⟩ rfl (Nat.le_of_ble_eq_true rfl) ?_
  refine z_istore_n (y := x5) (lv' := [(2, .int x5), (0, .ref (ad 0)), (1, .int v1)]) C dX7_afterCredits_20 rfl (by decide) rfl rfl ?_
  refine z_iload_n C dX7_afterCredits_21 rfl 0 rfl ?_
  refine z_iload_n C dX7_afterCredits_22 rfl 0 rfl ?_
  refine z_aload_n C dX7_afterCredits_23 rfl 1 rfl ?_
  refine z_getr C kX0 vc7 eX7_afterCredits_uX7 4 (by decide) rfl eX7_afterCredits_f40 rfl dX7_afterCredits_24 ?_
  obtain ⟨x7, s8, q_s8, hm⟩ := zBd_of hm
  refine z_cV (vd := false) (Cn := RX2) (k := 16) C 0 [] [.int x5, .int x5] (c_X2_total (zC_I C) (zC_st C)  q_s8) gX7_afterCredits_X2_total (by decide +kernel) kX16 vc2 rfl rfl dX7_afterCredits_27 rfl ⟨Nat.le_of_ble_eq_true rfl, Nat.le_of_ble_eq_true rfl⟩ rfl (Nat.le_of_ble_eq_true rfl) ?_
  refine z_mmin C eX7_afterCredits_l190 eX7_afterCredits_stmin eX7_afterCredits_im eX7_afterCredits_cmmin (Nat.le_of_ble_eq_true rfl) (Nat.le_of_ble_eq_true rfl) dX7_afterCredits_30 ?_
  refine z_isub C dX7_afterCredits_33 ?_
  exact z_iret0 C hQ (zRx_of hm).1 (zRx_of hm).2 dX7_afterCredits_34
set_option maxRecDepth 100000 in
set_option maxHeartbeats 4000000 in
theorem c_X7_afterCredits {h : zH} {ad : Nat → Nat} (hI : zI ad zLX.length) (hst : h.1.stackTraces = false) {n : Nat} {v1 : Int32} {s s9 : zS} {res : Int32 ⊕ Nat} (hm : m_X7_afterCredits n v1 s = some (res, s9)) : zMR h ad zLX false yX7_afterCredits wsX7_afterCredits 8 163 [.ref (ad 0), .int v1] s (res) s9 :=
  z_start (cc := cX7_afterCredits) (nL := 3) (ret := (some .int)) (own := RX7) (by decide +kernel) rfl rfl hI hst (Nat.le_of_ble_eq_true rfl) (fun G C hQ => w_X7_afterCredits_e C hQ _ hm)
set_option maxRecDepth 100000 in
theorem eX7_bestSum_uX7 : ∀ w ∈ wsX70, w ∈ wsX7_bestSum := by decide +kernel
set_option maxRecDepth 100000 in
theorem eX7_bestSum_f49 : Cond.fieldLink RX7 49 RX7 (TX7 5).2.1 (TX7 5).2.2.1 ∈ wsX7_bestSum := by decide +kernel
set_option maxRecDepth 100000 in
theorem eX7_bestSum_f40 : Cond.fieldLink RX7 40 RX7 (TX7 4).2.1 (TX7 4).2.2.1 ∈ wsX7_bestSum := by decide +kernel
set_option maxRecDepth 100000 in
set_option maxHeartbeats 4000000 in
theorem w_X7_bestSum_e {h : zH} {ad : Nat → Nat} {G : zG} (C : zC h ad zLX 2 G cX7_bestSum RX7 wsX7_bestSum 8 163) {n : Nat} {res : Int32 ⊕ Nat} {s9 : zS} (hQ : zQ h ad zLX G false (res) s9 (some .int)) {v1 : Int32} (s : zS) (hm : m_X7_bestSum n v1 s = some (res, s9)) : zV h ad zLX 2 G s 0 [(0, .ref (ad 0)), (1, .int v1)] [] := by
  rw [m_X7_bestSum] at hm
  refine z_iload_n C dX7_bestSum_0 rfl 1 rfl ?_
  rcases zBx_of hm with h_s2 | ⟨k_s2, q_s2, r_s2⟩
  rotate_left
  · subst r_s2
    exact z_xS (vd := true) C 1 [.int v1] [] (c_X7_checkLine (zC_I C) (zC_st C)  q_s2) hQ gX7_bestSum_X7_checkLine (by decide +kernel) rfl dX7_bestSum_1 rfl ⟨Nat.le_of_ble_eq_true rfl, Nat.le_of_ble_eq_true rfl⟩ rfl (Nat.le_of_ble_eq_true rfl)
  obtain ⟨x1, s2, q_s2, hm⟩ := h_s2
  refine z_cS (vd := true) C 1 [.int v1] [] (c_X7_checkLine (zC_I C) (zC_st C)  q_s2) gX7_bestSum_X7_checkLine (by decide +kernel) rfl dX7_bestSum_1 rfl ⟨Nat.le_of_ble_eq_true rfl, Nat.le_of_ble_eq_true rfl⟩ rfl (Nat.le_of_ble_eq_true rfl) ?_
  refine z_aload_n C dX7_bestSum_4 rfl 0 rfl ?_
  refine z_getr C kX0 vc7 eX7_bestSum_uX7 5 (by decide) rfl eX7_bestSum_f49 rfl dX7_bestSum_5 ?_
  refine z_iconst (v := (-1 : Int32)) C dX7_bestSum_8 (by decide) ?_
  obtain ⟨x3, s4, q_s4, hm⟩ := zBd_of hm
  refine z_cV (vd := true) (Cn := RX6) (k := 21) C 1 [.int (-1 : Int32)] [] (c_X6_workOut (zC_I C) (zC_st C)  q_s4) gX7_bestSum_X6_workOut (by decide +kernel) kX21 vc6 rfl rfl dX7_bestSum_9 rfl ⟨Nat.le_of_ble_eq_true rfl, Nat.le_of_ble_eq_true rfl⟩ rfl (Nat.le_of_ble_eq_true rfl) ?_
  refine z_aload_n C dX7_bestSum_12 rfl 0 rfl ?_
  refine z_getr C kX0 vc7 eX7_bestSum_uX7 4 (by decide) rfl eX7_bestSum_f40 rfl dX7_bestSum_13 ?_
  refine z_aload_n C dX7_bestSum_16 rfl 0 rfl ?_
  refine z_getr C kX0 vc7 eX7_bestSum_uX7 5 (by decide) rfl eX7_bestSum_f49 rfl dX7_bestSum_17 ?_
  refine z_iload_n C dX7_bestSum_20 rfl 1 rfl ?_
  obtain ⟨x5, s6, q_s6, hm⟩ := zBd_of hm
  refine z_cV (vd := false) (Cn := RX6) (k := 21) C 1 [.int v1] [.ref (ad 16)] (c_X6_of (zC_I C) (zC_st C)  q_s6) gX7_bestSum_X6_of (by decide +kernel) kX21 vc6 rfl rfl dX7_bestSum_21 rfl ⟨Nat.le_of_ble_eq_true rfl, Nat.le_of_ble_eq_true rfl⟩ rfl (Nat.le_of_ble_eq_true rfl) ?_
  obtain ⟨x7, s8, q_s8, hm⟩ := zBd_of hm
  refine z_cV (vd := false) (Cn := RX2) (k := 16) C 1 [.int x5] [] (c_X2_findBest (zC_I C) (zC_st C)  q_s8) gX7_bestSum_X2_findBest (by decide +kernel) kX16 vc2 rfl rfl dX7_bestSum_24 rfl ⟨Nat.le_of_ble_eq_true rfl, Nat.le_of_ble_eq_true rfl⟩ rfl (Nat.le_of_ble_eq_true rfl) ?_
  exact z_iret0 C hQ (zRx_of hm).1 (zRx_of hm).2 dX7_bestSum_27
set_option maxRecDepth 100000 in
set_option maxHeartbeats 4000000 in
theorem c_X7_bestSum {h : zH} {ad : Nat → Nat} (hI : zI ad zLX.length) (hst : h.1.stackTraces = false) {n : Nat} {v1 : Int32} {s s9 : zS} {res : Int32 ⊕ Nat} (hm : m_X7_bestSum n v1 s = some (res, s9)) : zMR h ad zLX false yX7_bestSum wsX7_bestSum 8 163 [.ref (ad 0), .int v1] s (res) s9 :=
  z_start (cc := cX7_bestSum) (nL := 2) (ret := (some .int)) (own := RX7) (by decide +kernel) rfl rfl hI hst (Nat.le_of_ble_eq_true rfl) (fun G C hQ => w_X7_bestSum_e C hQ _ hm)
