/-! lines, piece by piece -/
set_option maxRecDepth 100000 in
set_option maxHeartbeats 4000000 in
theorem wL_lines_0 {h : zH} {ad : Nat → Nat} {G : zG} (C : zCT [] h ad zLX 2 G cL_lines RL wq_lines 11 241) {QQ : zG → Prop} (hp : ∀ G, QQ G → QQ (zGp G)) (hq : ∀ G, QQ G → QQ (zGa G 180 1080)) (hQ : QQ G) {f : Nat} (hB : zBud G (f + 0)) {s s9 : zS} (hr : zRun sc_lines_0 s s9) (kk : ∀ G, zCT [] h ad zLX 2 G cL_lines RL wq_lines 11 241 → QQ G → zBud G f → zV h ad zLX 2 G s9 55 [(0, .ref (ad 0))] []) : zV h ad zLX 2 G s 8 [(0, .ref (ad 0))] [] := by
  refine z_aload_n C dL_lines_8 rfl 0 rfl ?_
  refine z_iconst (v := (0 : Int32)) C dL_lines_9 (by decide) ?_
  obtain ⟨t1, q1, hr⟩ := hr
  have q1 : m_X7_value 130 (0 : Int32) s = some (.inl (0 : Int32), t1) := q1
  refine z_cV (vd := false) (Cn := RX7) (k := 0) C 1 [.int (0 : Int32)] [] (c_X7_value (zC_I C) (zC_st C) q1) (gc gq_value) (by decide +kernel) kX0 vc7 rfl rfl dL_lines_10 rfl ⟨Nat.le_of_ble_eq_true rfl, Nat.le_of_ble_eq_true rfl⟩ rfl (Nat.le_of_ble_eq_true rfl) ?_
  refine z_if_ne (tgt := 288) C dL_lines_13 (by decide) (fun c => absurd (by decide) c) (fun _ => ?_)
  refine z_aload_n C dL_lines_16 rfl 0 rfl ?_
  refine z_bipush (v := (7 : Int32)) C dL_lines_17 (by decide) ?_
  obtain ⟨t2, q2, hr⟩ := hr
  have q2 : m_X7_kindOf 130 (7 : Int32) t1 = some (.inl (0 : Int32), t2) := q2
  refine z_cV (vd := false) (Cn := RX7) (k := 0) C 1 [.int (7 : Int32)] [] (c_X7_kindOf (zC_I C) (zC_st C) q2) (gc gq_kindOf) (by decide +kernel) kX0 vc7 rfl rfl dL_lines_19 rfl ⟨Nat.le_of_ble_eq_true rfl, Nat.le_of_ble_eq_true rfl⟩ rfl (Nat.le_of_ble_eq_true rfl) ?_
  refine z_if_ne (tgt := 288) C dL_lines_22 (by decide) (fun c => absurd (by decide) c) (fun _ => ?_)
  refine z_aload_n C dL_lines_25 rfl 0 rfl ?_
  obtain ⟨t3, q3, hr⟩ := hr
  have q3 : m_X7_year 130 t2 = some ((0 : Int32), t3) := zNl_of q3
  refine z_cV (vd := false) (Cn := RX7) (k := 0) C 0 [] [] (c_X7_year (zC_I C) (zC_st C) q3) (gc gq_year) (by decide +kernel) kX0 vc7 rfl rfl dL_lines_26 rfl ⟨Nat.le_of_ble_eq_true rfl, Nat.le_of_ble_eq_true rfl⟩ rfl (Nat.le_of_ble_eq_true rfl) ?_
  refine z_if_ne (tgt := 288) C dL_lines_29 (by decide) (fun c => absurd (by decide) c) (fun _ => ?_)
  refine z_aload_n C dL_lines_32 rfl 0 rfl ?_
  obtain ⟨t4, q4, hr⟩ := hr
  have q4 : m_X7_carried 130 t3 = some ((0 : Int32), t4) := zNl_of q4
  refine z_cV (vd := false) (Cn := RX7) (k := 0) C 0 [] [] (c_X7_carried (zC_I C) (zC_st C) q4) (gc gq_carried) (by decide +kernel) kX0 vc7 rfl rfl dL_lines_33 rfl ⟨Nat.le_of_ble_eq_true rfl, Nat.le_of_ble_eq_true rfl⟩ rfl (Nat.le_of_ble_eq_true rfl) ?_
  refine z_if_ne (tgt := 288) C dL_lines_36 (by decide) (fun c => absurd (by decide) c) (fun _ => ?_)
  refine z_aload_n C dL_lines_39 rfl 0 rfl ?_
  refine z_ldc (v := (1000000000 : Int32)) C ewq_lines_c90 dL_lines_40 ?_
  obtain ⟨t5, q5, hr⟩ := hr
  have q5 : m_X7_taxOn 130 (1000000000 : Int32) t4 = some (.inl (0 : Int32), t5) := q5
  refine z_cV (vd := false) (Cn := RX7) (k := 0) C 1 [.int (1000000000 : Int32)] [] (c_X7_taxOn (zC_I C) (zC_st C) q5) (gc gq_taxOn) (by decide +kernel) kX0 vc7 rfl rfl dL_lines_42 rfl ⟨Nat.le_of_ble_eq_true rfl, Nat.le_of_ble_eq_true rfl⟩ rfl (Nat.le_of_ble_eq_true rfl) ?_
  refine z_if_ne (tgt := 288) C dL_lines_45 (by decide) (fun c => absurd (by decide) c) (fun _ => ?_)
  refine z_aload_n C dL_lines_48 rfl 0 rfl ?_
  obtain ⟨t6, q6, hr⟩ := hr
  have q6 : m_X7_dropBrackets 130 t5 = some ((0 : Int32), t6) := zNl_of q6
  refine z_cV (vd := false) (Cn := RX7) (k := 0) C 0 [] [] (c_X7_dropBrackets (zC_I C) (zC_st C) q6) (gc gq_dropBrackets) (by decide +kernel) kX0 vc7 rfl rfl dL_lines_49 rfl ⟨Nat.le_of_ble_eq_true rfl, Nat.le_of_ble_eq_true rfl⟩ rfl (Nat.le_of_ble_eq_true rfl) ?_
  refine z_if_ne (tgt := 288) C dL_lines_52 (by decide) (fun c => absurd (by decide) c) (fun _ => ?_)
  have hr : t6 = s9 := hr
  subst hr
  exact kk _ C hQ hB
set_option maxRecDepth 100000 in
set_option maxHeartbeats 4000000 in
theorem wL_lines_1 {h : zH} {ad : Nat → Nat} {G : zG} (C : zCT [] h ad zLX 2 G cL_lines RL wq_lines 11 241) {QQ : zG → Prop} (hp : ∀ G, QQ G → QQ (zGp G)) (hq : ∀ G, QQ G → QQ (zGa G 180 1080)) (hQ : QQ G) {f : Nat} (hB : zBud G (f + 180)) {s s9 : zS} (hr : zRun sc_lines_1 s s9) (kk : ∀ G, zCT [] h ad zLX 2 G cL_lines RL wq_lines 11 241 → QQ G → zBud G f → zV h ad zLX 2 G s9 62 [(0, .ref (ad 0))] []) : zV h ad zLX 2 G s 55 [(0, .ref (ad 0))] [] := by
  refine z_aload_n C dL_lines_55 rfl 0 rfl ?_
  refine z_lK (f := f) (mc := 180) (ms := 1080) C 1 [.ref (ad 0)] [] hB rfl (coL_refuses (zC_I C) (zC_st C) (by decide) (by decide) hr) (gc gq_L_refuses) (by decide +kernel) rfl dL_lines_56 rfl ⟨Nat.le_of_ble_eq_true rfl, Nat.le_of_ble_eq_true rfl⟩ rfl (Nat.le_of_ble_eq_true rfl) ?_
  have C := zCT_a C (zBud_le hB (Nat.le_add_left _ _)) (Nat.le_refl 1080); have hQ := hq _ hQ; have hB := zBud_a hB
  refine z_if_eq (tgt := 288) C dL_lines_59 (by decide) (fun c => absurd c (by decide)) (fun _ => ?_)
  exact kk _ C hQ hB
set_option maxRecDepth 100000 in
set_option maxHeartbeats 4000000 in
theorem wL_lines_2 {h : zH} {ad : Nat → Nat} {G : zG} (C : zCT [] h ad zLX 2 G cL_lines RL wq_lines 11 241) {QQ : zG → Prop} (hp : ∀ G, QQ G → QQ (zGp G)) (hq : ∀ G, QQ G → QQ (zGa G 180 1080)) (hQ : QQ G) {f : Nat} (hB : zBud G (f + 7)) {s s9 : zS} (hr : zRun sc_lines_2 s s9) (kk : ∀ G, zCT [] h ad zLX 2 G cL_lines RL wq_lines 11 241 → QQ G → zBud G f → zV h ad zLX 2 G s9 167 [(0, .ref (ad 0))] []) : zV h ad zLX 2 G s 62 [(0, .ref (ad 0))] [] := by
  refine z_aload_n C dL_lines_62 rfl 0 rfl ?_
  refine z_iconst (v := (0 : Int32)) C dL_lines_63 (by decide) ?_
  refine z_sipush (v := (1000 : Int32)) C dL_lines_64 (by decide) ?_
  obtain ⟨t1, q1, hr⟩ := hr
  have q1 : m_X7_answer 130 (0 : Int32) (1000 : Int32) s = some (.inl (0 : Int32), t1) := q1
  refine z_cV (vd := false) (Cn := RX7) (k := 0) C 2 [.int (0 : Int32), .int (1000 : Int32)] [] (c_X7_answer (zC_I C) (zC_st C) q1) (gc gq_answer) (by decide +kernel) kX0 vc7 rfl rfl dL_lines_67 rfl ⟨Nat.le_of_ble_eq_true rfl, Nat.le_of_ble_eq_true rfl⟩ rfl (Nat.le_of_ble_eq_true rfl) ?_
  refine z_if_ne (tgt := 288) C dL_lines_70 (by decide) (fun c => absurd (by decide) c) (fun _ => ?_)
  refine z_aload_n C dL_lines_73 rfl 0 rfl ?_
  refine z_iconst (v := (1 : Int32)) C dL_lines_74 (by decide) ?_
  refine z_sipush (v := (300 : Int32)) C dL_lines_75 (by decide) ?_
  obtain ⟨t2, q2, hr⟩ := hr
  have q2 : m_X7_answer 130 (1 : Int32) (300 : Int32) t1 = some (.inl (0 : Int32), t2) := q2
  refine z_cV (vd := false) (Cn := RX7) (k := 0) C 2 [.int (1 : Int32), .int (300 : Int32)] [] (c_X7_answer (zC_I C) (zC_st C) q2) (gc gq_answer) (by decide +kernel) kX0 vc7 rfl rfl dL_lines_78 rfl ⟨Nat.le_of_ble_eq_true rfl, Nat.le_of_ble_eq_true rfl⟩ rfl (Nat.le_of_ble_eq_true rfl) ?_
  refine z_if_ne (tgt := 288) C dL_lines_81 (by decide) (fun c => absurd (by decide) c) (fun _ => ?_)
  refine z_aload_n C dL_lines_84 rfl 0 rfl ?_
  refine z_iconst (v := (2 : Int32)) C dL_lines_85 (by decide) ?_
  refine z_iconst (v := (1 : Int32)) C dL_lines_86 (by decide) ?_
  refine z_iconst (v := (0 : Int32)) C dL_lines_87 (by decide) ?_
  refine z_iconst (v := (1 : Int32)) C dL_lines_88 (by decide) ?_
  obtain ⟨t3, q3, hr⟩ := hr
  have q3 : m_X7_define 130 (2 : Int32) (1 : Int32) (0 : Int32) (1 : Int32) t2 = some (.inl (0 : Int32), t3) := q3
  refine z_lS C 5 [.ref (ad 0), .int (2 : Int32), .int (1 : Int32), .int (0 : Int32), .int (1 : Int32)] [] (zBud_r hB) (cL_define_v (zC_I C) (zC_st C) q3) (gc gq_L_define) (by decide +kernel) rfl dL_lines_89 rfl ⟨Nat.le_of_ble_eq_true rfl, Nat.le_of_ble_eq_true rfl⟩ rfl (Nat.le_of_ble_eq_true rfl) ?_
  have C := zCT_p C (zBud_r hB); have hQ := hp _ hQ; have hB := zBud_p hB
  refine z_if_ne (tgt := 288) C dL_lines_92 (by decide) (fun c => absurd (by decide) c) (fun _ => ?_)
  refine z_aload_n C dL_lines_95 rfl 0 rfl ?_
  refine z_iconst (v := (3 : Int32)) C dL_lines_96 (by decide) ?_
  refine z_iconst (v := (2 : Int32)) C dL_lines_97 (by decide) ?_
  refine z_iconst (v := (0 : Int32)) C dL_lines_98 (by decide) ?_
  refine z_iconst (v := (1 : Int32)) C dL_lines_99 (by decide) ?_
  obtain ⟨t4, q4, hr⟩ := hr
  have q4 : m_X7_define 130 (3 : Int32) (2 : Int32) (0 : Int32) (1 : Int32) t3 = some (.inl (0 : Int32), t4) := q4
  refine z_lS C 5 [.ref (ad 0), .int (3 : Int32), .int (2 : Int32), .int (0 : Int32), .int (1 : Int32)] [] (zBud_r hB) (cL_define_v (zC_I C) (zC_st C) q4) (gc gq_L_define) (by decide +kernel) rfl dL_lines_100 rfl ⟨Nat.le_of_ble_eq_true rfl, Nat.le_of_ble_eq_true rfl⟩ rfl (Nat.le_of_ble_eq_true rfl) ?_
  have C := zCT_p C (zBud_r hB); have hQ := hp _ hQ; have hB := zBud_p hB
  refine z_if_ne (tgt := 288) C dL_lines_103 (by decide) (fun c => absurd (by decide) c) (fun _ => ?_)
  refine z_aload_n C dL_lines_106 rfl 0 rfl ?_
  refine z_iconst (v := (4 : Int32)) C dL_lines_107 (by decide) ?_
  refine z_iconst (v := (2 : Int32)) C dL_lines_108 (by decide) ?_
  refine z_iconst (v := (1 : Int32)) C dL_lines_109 (by decide) ?_
  refine z_iconst (v := (0 : Int32)) C dL_lines_110 (by decide) ?_
  obtain ⟨t5, q5, hr⟩ := hr
  have q5 : m_X7_define 130 (4 : Int32) (2 : Int32) (1 : Int32) (0 : Int32) t4 = some (.inl (0 : Int32), t5) := q5
  refine z_lS C 5 [.ref (ad 0), .int (4 : Int32), .int (2 : Int32), .int (1 : Int32), .int (0 : Int32)] [] (zBud_r hB) (cL_define_v (zC_I C) (zC_st C) q5) (gc gq_L_define) (by decide +kernel) rfl dL_lines_111 rfl ⟨Nat.le_of_ble_eq_true rfl, Nat.le_of_ble_eq_true rfl⟩ rfl (Nat.le_of_ble_eq_true rfl) ?_
  have C := zCT_p C (zBud_r hB); have hQ := hp _ hQ; have hB := zBud_p hB
  refine z_if_ne (tgt := 288) C dL_lines_114 (by decide) (fun c => absurd (by decide) c) (fun _ => ?_)
  refine z_aload_n C dL_lines_117 rfl 0 rfl ?_
  refine z_iconst (v := (5 : Int32)) C dL_lines_118 (by decide) ?_
  refine z_iconst (v := (3 : Int32)) C dL_lines_119 (by decide) ?_
  refine z_iconst (v := (0 : Int32)) C dL_lines_120 (by decide) ?_
  refine z_sipush (v := (333 : Int32)) C dL_lines_121 (by decide) ?_
  obtain ⟨t6, q6, hr⟩ := hr
  have q6 : m_X7_define 130 (5 : Int32) (3 : Int32) (0 : Int32) (333 : Int32) t5 = some (.inl (0 : Int32), t6) := q6
  refine z_lS C 5 [.ref (ad 0), .int (5 : Int32), .int (3 : Int32), .int (0 : Int32), .int (333 : Int32)] [] (zBud_r hB) (cL_define_v (zC_I C) (zC_st C) q6) (gc gq_L_define) (by decide +kernel) rfl dL_lines_124 rfl ⟨Nat.le_of_ble_eq_true rfl, Nat.le_of_ble_eq_true rfl⟩ rfl (Nat.le_of_ble_eq_true rfl) ?_
  have C := zCT_p C (zBud_r hB); have hQ := hp _ hQ; have hB := zBud_p hB
  refine z_if_ne (tgt := 288) C dL_lines_127 (by decide) (fun c => absurd (by decide) c) (fun _ => ?_)
  refine z_aload_n C dL_lines_130 rfl 0 rfl ?_
  refine z_bipush (v := (6 : Int32)) C dL_lines_131 (by decide) ?_
  refine z_iconst (v := (4 : Int32)) C dL_lines_133 (by decide) ?_
  refine z_iconst (v := (0 : Int32)) C dL_lines_134 (by decide) ?_
  refine z_iconst (v := (1 : Int32)) C dL_lines_135 (by decide) ?_
  obtain ⟨t7, q7, hr⟩ := hr
  have q7 : m_X7_define 130 (6 : Int32) (4 : Int32) (0 : Int32) (1 : Int32) t6 = some (.inl (0 : Int32), t7) := q7
  refine z_lS C 5 [.ref (ad 0), .int (6 : Int32), .int (4 : Int32), .int (0 : Int32), .int (1 : Int32)] [] (zBud_r hB) (cL_define_v (zC_I C) (zC_st C) q7) (gc gq_L_define) (by decide +kernel) rfl dL_lines_136 rfl ⟨Nat.le_of_ble_eq_true rfl, Nat.le_of_ble_eq_true rfl⟩ rfl (Nat.le_of_ble_eq_true rfl) ?_
  have C := zCT_p C (zBud_r hB); have hQ := hp _ hQ; have hB := zBud_p hB
  refine z_if_ne (tgt := 288) C dL_lines_139 (by decide) (fun c => absurd (by decide) c) (fun _ => ?_)
  refine z_aload_n C dL_lines_142 rfl 0 rfl ?_
  refine z_bipush (v := (7 : Int32)) C dL_lines_143 (by decide) ?_
  refine z_iconst (v := (5 : Int32)) C dL_lines_145 (by decide) ?_
  refine z_iconst (v := (0 : Int32)) C dL_lines_146 (by decide) ?_
  refine z_iconst (v := (1 : Int32)) C dL_lines_147 (by decide) ?_
  obtain ⟨t8, q8, hr⟩ := hr
  have q8 : m_X7_define 130 (7 : Int32) (5 : Int32) (0 : Int32) (1 : Int32) t7 = some (.inl (0 : Int32), t8) := q8
  refine z_lS C 5 [.ref (ad 0), .int (7 : Int32), .int (5 : Int32), .int (0 : Int32), .int (1 : Int32)] [] (zBud_r hB) (cL_define_v (zC_I C) (zC_st C) q8) (gc gq_L_define) (by decide +kernel) rfl dL_lines_148 rfl ⟨Nat.le_of_ble_eq_true rfl, Nat.le_of_ble_eq_true rfl⟩ rfl (Nat.le_of_ble_eq_true rfl) ?_
  have C := zCT_p C (zBud_r hB); have hQ := hp _ hQ; have hB := zBud_p hB
  refine z_if_ne (tgt := 288) C dL_lines_151 (by decide) (fun c => absurd (by decide) c) (fun _ => ?_)
  refine z_aload_n C dL_lines_154 rfl 0 rfl ?_
  refine z_bipush (v := (8 : Int32)) C dL_lines_155 (by decide) ?_
  refine z_bipush (v := (6 : Int32)) C dL_lines_157 (by decide) ?_
  refine z_iconst (v := (2 : Int32)) C dL_lines_159 (by decide) ?_
  refine z_iconst (v := (0 : Int32)) C dL_lines_160 (by decide) ?_
  obtain ⟨t9, q9, hr⟩ := hr
  have q9 : m_X7_define 130 (8 : Int32) (6 : Int32) (2 : Int32) (0 : Int32) t8 = some (.inl (0 : Int32), t9) := q9
  refine z_lS C 5 [.ref (ad 0), .int (8 : Int32), .int (6 : Int32), .int (2 : Int32), .int (0 : Int32)] [] (zBud_r hB) (cL_define_v (zC_I C) (zC_st C) q9) (gc gq_L_define) (by decide +kernel) rfl dL_lines_161 rfl ⟨Nat.le_of_ble_eq_true rfl, Nat.le_of_ble_eq_true rfl⟩ rfl (Nat.le_of_ble_eq_true rfl) ?_
  have C := zCT_p C (zBud_r hB); have hQ := hp _ hQ; have hB := zBud_p hB
  refine z_if_ne (tgt := 288) C dL_lines_164 (by decide) (fun c => absurd (by decide) c) (fun _ => ?_)
  have hr : t9 = s9 := hr
  subst hr
  exact kk _ C hQ hB
set_option maxRecDepth 100000 in
set_option maxHeartbeats 4000000 in
theorem wL_lines_3 {h : zH} {ad : Nat → Nat} {G : zG} (C : zCT [] h ad zLX 2 G cL_lines RL wq_lines 11 241) {QQ : zG → Prop} (hp : ∀ G, QQ G → QQ (zGp G)) (hq : ∀ G, QQ G → QQ (zGa G 180 1080)) (hQ : QQ G) {f : Nat} (hB : zBud G (f + 2)) {s s9 : zS} (hr : zRun sc_lines_3 s s9) (kk : ∀ G, zCT [] h ad zLX 2 G cL_lines RL wq_lines 11 241 → QQ G → zBud G f → zV h ad zLX 2 G s9 267 [(0, .ref (ad 0))] []) : zV h ad zLX 2 G s 167 [(0, .ref (ad 0))] [] := by
  refine z_aload_n C dL_lines_167 rfl 0 rfl ?_
  refine z_bipush (v := (9 : Int32)) C dL_lines_168 (by decide) ?_
  refine z_bipush (v := (7 : Int32)) C dL_lines_170 (by decide) ?_
  refine z_iconst (v := (0 : Int32)) C dL_lines_172 (by decide) ?_
  refine z_iconst (v := (0 : Int32)) C dL_lines_173 (by decide) ?_
  obtain ⟨t1, q1, hr⟩ := hr
  have q1 : m_X7_define 130 (9 : Int32) (7 : Int32) (0 : Int32) (0 : Int32) s = some (.inl (0 : Int32), t1) := q1
  refine z_lS C 5 [.ref (ad 0), .int (9 : Int32), .int (7 : Int32), .int (0 : Int32), .int (0 : Int32)] [] (zBud_r hB) (cL_define_v (zC_I C) (zC_st C) q1) (gc gq_L_define) (by decide +kernel) rfl dL_lines_174 rfl ⟨Nat.le_of_ble_eq_true rfl, Nat.le_of_ble_eq_true rfl⟩ rfl (Nat.le_of_ble_eq_true rfl) ?_
  have C := zCT_p C (zBud_r hB); have hQ := hp _ hQ; have hB := zBud_p hB
  refine z_if_ne (tgt := 288) C dL_lines_177 (by decide) (fun c => absurd (by decide) c) (fun _ => ?_)
  refine z_aload_n C dL_lines_180 rfl 0 rfl ?_
  refine z_bipush (v := (10 : Int32)) C dL_lines_181 (by decide) ?_
  refine z_bipush (v := (8 : Int32)) C dL_lines_183 (by decide) ?_
  refine z_iconst (v := (0 : Int32)) C dL_lines_185 (by decide) ?_
  refine z_iconst (v := (1 : Int32)) C dL_lines_186 (by decide) ?_
  obtain ⟨t2, q2, hr⟩ := hr
  have q2 : m_X7_define 130 (10 : Int32) (8 : Int32) (0 : Int32) (1 : Int32) t1 = some (.inl (0 : Int32), t2) := q2
  refine z_lS C 5 [.ref (ad 0), .int (10 : Int32), .int (8 : Int32), .int (0 : Int32), .int (1 : Int32)] [] (zBud_r hB) (cL_define_v (zC_I C) (zC_st C) q2) (gc gq_L_define) (by decide +kernel) rfl dL_lines_187 rfl ⟨Nat.le_of_ble_eq_true rfl, Nat.le_of_ble_eq_true rfl⟩ rfl (Nat.le_of_ble_eq_true rfl) ?_
  have C := zCT_p C (zBud_r hB); have hQ := hp _ hQ; have hB := zBud_p hB
  refine z_if_ne (tgt := 288) C dL_lines_190 (by decide) (fun c => absurd (by decide) c) (fun _ => ?_)
  refine z_aload_n C dL_lines_193 rfl 0 rfl ?_
  refine z_iconst (v := (2 : Int32)) C dL_lines_194 (by decide) ?_
  obtain ⟨t3, q3, hr⟩ := hr
  have q3 : m_X7_value 130 (2 : Int32) t2 = some (.inl (1300 : Int32), t3) := q3
  refine z_cV (vd := false) (Cn := RX7) (k := 0) C 1 [.int (2 : Int32)] [] (c_X7_value (zC_I C) (zC_st C) q3) (gc gq_value) (by decide +kernel) kX0 vc7 rfl rfl dL_lines_195 rfl ⟨Nat.le_of_ble_eq_true rfl, Nat.le_of_ble_eq_true rfl⟩ rfl (Nat.le_of_ble_eq_true rfl) ?_
  refine z_sipush (v := (1300 : Int32)) C dL_lines_198 (by decide) ?_
  refine z_icmp_ne (tgt := 288) C dL_lines_201 (by decide) (fun c => absurd (by decide) c) (fun _ => ?_)
  refine z_aload_n C dL_lines_204 rfl 0 rfl ?_
  refine z_iconst (v := (3 : Int32)) C dL_lines_205 (by decide) ?_
  obtain ⟨t4, q4, hr⟩ := hr
  have q4 : m_X7_value 130 (3 : Int32) t3 = some (.inl (700 : Int32), t4) := q4
  refine z_cV (vd := false) (Cn := RX7) (k := 0) C 1 [.int (3 : Int32)] [] (c_X7_value (zC_I C) (zC_st C) q4) (gc gq_value) (by decide +kernel) kX0 vc7 rfl rfl dL_lines_206 rfl ⟨Nat.le_of_ble_eq_true rfl, Nat.le_of_ble_eq_true rfl⟩ rfl (Nat.le_of_ble_eq_true rfl) ?_
  refine z_sipush (v := (700 : Int32)) C dL_lines_209 (by decide) ?_
  refine z_icmp_ne (tgt := 288) C dL_lines_212 (by decide) (fun c => absurd (by decide) c) (fun _ => ?_)
  refine z_aload_n C dL_lines_215 rfl 0 rfl ?_
  refine z_iconst (v := (4 : Int32)) C dL_lines_216 (by decide) ?_
  obtain ⟨t5, q5, hr⟩ := hr
  have q5 : m_X7_value 130 (4 : Int32) t4 = some (.inl (0 : Int32), t5) := q5
  refine z_cV (vd := false) (Cn := RX7) (k := 0) C 1 [.int (4 : Int32)] [] (c_X7_value (zC_I C) (zC_st C) q5) (gc gq_value) (by decide +kernel) kX0 vc7 rfl rfl dL_lines_217 rfl ⟨Nat.le_of_ble_eq_true rfl, Nat.le_of_ble_eq_true rfl⟩ rfl (Nat.le_of_ble_eq_true rfl) ?_
  refine z_if_ne (tgt := 288) C dL_lines_220 (by decide) (fun c => absurd (by decide) c) (fun _ => ?_)
  refine z_aload_n C dL_lines_223 rfl 0 rfl ?_
  refine z_iconst (v := (5 : Int32)) C dL_lines_224 (by decide) ?_
  obtain ⟨t6, q6, hr⟩ := hr
  have q6 : m_X7_value 130 (5 : Int32) t5 = some (.inl (333 : Int32), t6) := q6
  refine z_cV (vd := false) (Cn := RX7) (k := 0) C 1 [.int (5 : Int32)] [] (c_X7_value (zC_I C) (zC_st C) q6) (gc gq_value) (by decide +kernel) kX0 vc7 rfl rfl dL_lines_225 rfl ⟨Nat.le_of_ble_eq_true rfl, Nat.le_of_ble_eq_true rfl⟩ rfl (Nat.le_of_ble_eq_true rfl) ?_
  refine z_sipush (v := (333 : Int32)) C dL_lines_228 (by decide) ?_
  refine z_icmp_ne (tgt := 288) C dL_lines_231 (by decide) (fun c => absurd (by decide) c) (fun _ => ?_)
  refine z_aload_n C dL_lines_234 rfl 0 rfl ?_
  refine z_bipush (v := (6 : Int32)) C dL_lines_235 (by decide) ?_
  obtain ⟨t7, q7, hr⟩ := hr
  have q7 : m_X7_value 130 (6 : Int32) t6 = some (.inl (300 : Int32), t7) := q7
  refine z_cV (vd := false) (Cn := RX7) (k := 0) C 1 [.int (6 : Int32)] [] (c_X7_value (zC_I C) (zC_st C) q7) (gc gq_value) (by decide +kernel) kX0 vc7 rfl rfl dL_lines_237 rfl ⟨Nat.le_of_ble_eq_true rfl, Nat.le_of_ble_eq_true rfl⟩ rfl (Nat.le_of_ble_eq_true rfl) ?_
  refine z_sipush (v := (300 : Int32)) C dL_lines_240 (by decide) ?_
  refine z_icmp_ne (tgt := 288) C dL_lines_243 (by decide) (fun c => absurd (by decide) c) (fun _ => ?_)
  refine z_aload_n C dL_lines_246 rfl 0 rfl ?_
  refine z_bipush (v := (7 : Int32)) C dL_lines_247 (by decide) ?_
  obtain ⟨t8, q8, hr⟩ := hr
  have q8 : m_X7_value 130 (7 : Int32) t7 = some (.inl (1000 : Int32), t8) := q8
  refine z_cV (vd := false) (Cn := RX7) (k := 0) C 1 [.int (7 : Int32)] [] (c_X7_value (zC_I C) (zC_st C) q8) (gc gq_value) (by decide +kernel) kX0 vc7 rfl rfl dL_lines_249 rfl ⟨Nat.le_of_ble_eq_true rfl, Nat.le_of_ble_eq_true rfl⟩ rfl (Nat.le_of_ble_eq_true rfl) ?_
  refine z_sipush (v := (1000 : Int32)) C dL_lines_252 (by decide) ?_
  refine z_icmp_ne (tgt := 288) C dL_lines_255 (by decide) (fun c => absurd (by decide) c) (fun _ => ?_)
  refine z_aload_n C dL_lines_258 rfl 0 rfl ?_
  refine z_bipush (v := (8 : Int32)) C dL_lines_259 (by decide) ?_
  obtain ⟨t9, q9, hr⟩ := hr
  have q9 : m_X7_value 130 (8 : Int32) t8 = some (.inl (0 : Int32), t9) := q9
  refine z_cV (vd := false) (Cn := RX7) (k := 0) C 1 [.int (8 : Int32)] [] (c_X7_value (zC_I C) (zC_st C) q9) (gc gq_value) (by decide +kernel) kX0 vc7 rfl rfl dL_lines_261 rfl ⟨Nat.le_of_ble_eq_true rfl, Nat.le_of_ble_eq_true rfl⟩ rfl (Nat.le_of_ble_eq_true rfl) ?_
  refine z_if_ne (tgt := 288) C dL_lines_264 (by decide) (fun c => absurd (by decide) c) (fun _ => ?_)
  have hr : t9 = s9 := hr
  subst hr
  exact kk _ C hQ hB
set_option maxRecDepth 100000 in
set_option maxHeartbeats 4000000 in
theorem wL_lines_4 {h : zH} {ad : Nat → Nat} {G : zG} (C : zCT [] h ad zLX 2 G cL_lines RL wq_lines 11 241) {QQ : zG → Prop} (hp : ∀ G, QQ G → QQ (zGp G)) (hq : ∀ G, QQ G → QQ (zGa G 180 1080)) (hQ : QQ G) {f : Nat} (hB : zBud G (f + 0)) {s s9 : zS} (hr : zRun sc_lines_4 s s9) (kk : ∀ G, zCT [] h ad zLX 2 G cL_lines RL wq_lines 11 241 → QQ G → zBud G f → zV h ad zLX 2 G s9 372 [(0, .ref (ad 0))] []) : zV h ad zLX 2 G s 267 [(0, .ref (ad 0))] [] := by
  refine z_aload_n C dL_lines_267 rfl 0 rfl ?_
  refine z_bipush (v := (9 : Int32)) C dL_lines_268 (by decide) ?_
  obtain ⟨t1, q1, hr⟩ := hr
  have q1 : m_X7_value 130 (9 : Int32) s = some (.inl (0 : Int32), t1) := q1
  refine z_cV (vd := false) (Cn := RX7) (k := 0) C 1 [.int (9 : Int32)] [] (c_X7_value (zC_I C) (zC_st C) q1) (gc gq_value) (by decide +kernel) kX0 vc7 rfl rfl dL_lines_270 rfl ⟨Nat.le_of_ble_eq_true rfl, Nat.le_of_ble_eq_true rfl⟩ rfl (Nat.le_of_ble_eq_true rfl) ?_
  refine z_if_ne (tgt := 288) C dL_lines_273 (by decide) (fun c => absurd (by decide) c) (fun _ => ?_)
  refine z_aload_n C dL_lines_276 rfl 0 rfl ?_
  refine z_bipush (v := (10 : Int32)) C dL_lines_277 (by decide) ?_
  obtain ⟨t2, q2, hr⟩ := hr
  have q2 : m_X7_value 130 (10 : Int32) t1 = some (.inl (300 : Int32), t2) := q2
  refine z_cV (vd := false) (Cn := RX7) (k := 0) C 1 [.int (10 : Int32)] [] (c_X7_value (zC_I C) (zC_st C) q2) (gc gq_value) (by decide +kernel) kX0 vc7 rfl rfl dL_lines_279 rfl ⟨Nat.le_of_ble_eq_true rfl, Nat.le_of_ble_eq_true rfl⟩ rfl (Nat.le_of_ble_eq_true rfl) ?_
  refine z_sipush (v := (300 : Int32)) C dL_lines_282 (by decide) ?_
  refine z_icmp_eq (tgt := 290) C dL_lines_285 (by decide) (fun _ => ?_) (fun c => absurd (by decide) c)
  refine z_aload_n C dL_lines_290 rfl 0 rfl ?_
  refine z_sipush (v := (1000 : Int32)) C dL_lines_291 (by decide) ?_
  refine z_sipush (v := (200 : Int32)) C dL_lines_294 (by decide) ?_
  obtain ⟨t3, q3, hr⟩ := hr
  have q3 : m_X7_bracket 130 (1000 : Int32) (200 : Int32) t2 = some (.inl (1 : Int32), t3) := q3
  refine z_cV (vd := false) (Cn := RX7) (k := 0) C 2 [.int (1000 : Int32), .int (200 : Int32)] [] (c_X7_bracket (zC_I C) (zC_st C) q3) (gc gq_bracket) (by decide +kernel) kX0 vc7 rfl rfl dL_lines_297 rfl ⟨Nat.le_of_ble_eq_true rfl, Nat.le_of_ble_eq_true rfl⟩ rfl (Nat.le_of_ble_eq_true rfl) ?_
  refine z_iconst (v := (1 : Int32)) C dL_lines_300 (by decide) ?_
  refine z_icmp_ne (tgt := 513) C dL_lines_301 (by decide) (fun c => absurd (by decide) c) (fun _ => ?_)
  refine z_aload_n C dL_lines_304 rfl 0 rfl ?_
  refine z_bipush (v := (100 : Int32)) C dL_lines_305 (by decide) ?_
  refine z_bipush (v := (105 : Int32)) C dL_lines_307 (by decide) ?_
  obtain ⟨t4, q4, hr⟩ := hr
  have q4 : m_X7_bracket 130 (100 : Int32) (105 : Int32) t3 = some (.inl (2 : Int32), t4) := q4
  refine z_cV (vd := false) (Cn := RX7) (k := 0) C 2 [.int (100 : Int32), .int (105 : Int32)] [] (c_X7_bracket (zC_I C) (zC_st C) q4) (gc gq_bracket) (by decide +kernel) kX0 vc7 rfl rfl dL_lines_309 rfl ⟨Nat.le_of_ble_eq_true rfl, Nat.le_of_ble_eq_true rfl⟩ rfl (Nat.le_of_ble_eq_true rfl) ?_
  refine z_iconst (v := (2 : Int32)) C dL_lines_312 (by decide) ?_
  refine z_icmp_ne (tgt := 513) C dL_lines_313 (by decide) (fun c => absurd (by decide) c) (fun _ => ?_)
  refine z_aload_n C dL_lines_316 rfl 0 rfl ?_
  refine z_sipush (v := (1200 : Int32)) C dL_lines_317 (by decide) ?_
  refine z_sipush (v := (500 : Int32)) C dL_lines_320 (by decide) ?_
  obtain ⟨t5, q5, hr⟩ := hr
  have q5 : m_X7_bracket 130 (1200 : Int32) (500 : Int32) t4 = some (.inl (3 : Int32), t5) := q5
  refine z_cV (vd := false) (Cn := RX7) (k := 0) C 2 [.int (1200 : Int32), .int (500 : Int32)] [] (c_X7_bracket (zC_I C) (zC_st C) q5) (gc gq_bracket) (by decide +kernel) kX0 vc7 rfl rfl dL_lines_323 rfl ⟨Nat.le_of_ble_eq_true rfl, Nat.le_of_ble_eq_true rfl⟩ rfl (Nat.le_of_ble_eq_true rfl) ?_
  refine z_iconst (v := (3 : Int32)) C dL_lines_326 (by decide) ?_
  refine z_icmp_ne (tgt := 513) C dL_lines_327 (by decide) (fun c => absurd (by decide) c) (fun _ => ?_)
  refine z_aload_n C dL_lines_330 rfl 0 rfl ?_
  refine z_sipush (v := (1000 : Int32)) C dL_lines_331 (by decide) ?_
  refine z_sipush (v := (201 : Int32)) C dL_lines_334 (by decide) ?_
  obtain ⟨t6, q6, hr⟩ := hr
  have q6 : m_X7_bracket 130 (1000 : Int32) (201 : Int32) t5 = some (.inl (3 : Int32), t6) := q6
  refine z_cV (vd := false) (Cn := RX7) (k := 0) C 2 [.int (1000 : Int32), .int (201 : Int32)] [] (c_X7_bracket (zC_I C) (zC_st C) q6) (gc gq_bracket) (by decide +kernel) kX0 vc7 rfl rfl dL_lines_337 rfl ⟨Nat.le_of_ble_eq_true rfl, Nat.le_of_ble_eq_true rfl⟩ rfl (Nat.le_of_ble_eq_true rfl) ?_
  refine z_iconst (v := (3 : Int32)) C dL_lines_340 (by decide) ?_
  refine z_icmp_ne (tgt := 513) C dL_lines_341 (by decide) (fun c => absurd (by decide) c) (fun _ => ?_)
  refine z_aload_n C dL_lines_344 rfl 0 rfl ?_
  refine z_bipush (v := (100 : Int32)) C dL_lines_345 (by decide) ?_
  obtain ⟨t7, q7, hr⟩ := hr
  have q7 : m_X7_taxOn 130 (100 : Int32) t6 = some (.inl (0 : Int32), t7) := q7
  refine z_cV (vd := false) (Cn := RX7) (k := 0) C 1 [.int (100 : Int32)] [] (c_X7_taxOn (zC_I C) (zC_st C) q7) (gc gq_taxOn) (by decide +kernel) kX0 vc7 rfl rfl dL_lines_347 rfl ⟨Nat.le_of_ble_eq_true rfl, Nat.le_of_ble_eq_true rfl⟩ rfl (Nat.le_of_ble_eq_true rfl) ?_
  refine z_if_ne (tgt := 513) C dL_lines_350 (by decide) (fun c => absurd (by decide) c) (fun _ => ?_)
  refine z_aload_n C dL_lines_353 rfl 0 rfl ?_
  refine z_bipush (v := (109 : Int32)) C dL_lines_354 (by decide) ?_
  obtain ⟨t8, q8, hr⟩ := hr
  have q8 : m_X7_taxOn 130 (109 : Int32) t7 = some (.inl (0 : Int32), t8) := q8
  refine z_cV (vd := false) (Cn := RX7) (k := 0) C 1 [.int (109 : Int32)] [] (c_X7_taxOn (zC_I C) (zC_st C) q8) (gc gq_taxOn) (by decide +kernel) kX0 vc7 rfl rfl dL_lines_356 rfl ⟨Nat.le_of_ble_eq_true rfl, Nat.le_of_ble_eq_true rfl⟩ rfl (Nat.le_of_ble_eq_true rfl) ?_
  refine z_if_ne (tgt := 513) C dL_lines_359 (by decide) (fun c => absurd (by decide) c) (fun _ => ?_)
  refine z_aload_n C dL_lines_362 rfl 0 rfl ?_
  refine z_bipush (v := (110 : Int32)) C dL_lines_363 (by decide) ?_
  obtain ⟨t9, q9, hr⟩ := hr
  have q9 : m_X7_taxOn 130 (110 : Int32) t8 = some (.inl (1 : Int32), t9) := q9
  refine z_cV (vd := false) (Cn := RX7) (k := 0) C 1 [.int (110 : Int32)] [] (c_X7_taxOn (zC_I C) (zC_st C) q9) (gc gq_taxOn) (by decide +kernel) kX0 vc7 rfl rfl dL_lines_365 rfl ⟨Nat.le_of_ble_eq_true rfl, Nat.le_of_ble_eq_true rfl⟩ rfl (Nat.le_of_ble_eq_true rfl) ?_
  refine z_iconst (v := (1 : Int32)) C dL_lines_368 (by decide) ?_
  refine z_icmp_ne (tgt := 513) C dL_lines_369 (by decide) (fun c => absurd (by decide) c) (fun _ => ?_)
  have hr : t9 = s9 := hr
  subst hr
  exact kk _ C hQ hB
set_option maxRecDepth 100000 in
set_option maxHeartbeats 4000000 in
theorem wL_lines_5 {h : zH} {ad : Nat → Nat} {G : zG} (C : zCT [] h ad zLX 2 G cL_lines RL wq_lines 11 241) {QQ : zG → Prop} (hp : ∀ G, QQ G → QQ (zGp G)) (hq : ∀ G, QQ G → QQ (zGa G 180 1080)) (hQ : QQ G) {f : Nat} (hB : zBud G (f + 0)) {s s9 : zS} (hr : zRun sc_lines_5 s s9) (kk : ∀ G, zCT [] h ad zLX 2 G cL_lines RL wq_lines 11 241 → QQ G → zBud G f → zV h ad zLX 2 G s9 477 [(0, .ref (ad 0))] []) : zV h ad zLX 2 G s 372 [(0, .ref (ad 0))] [] := by
  refine z_aload_n C dL_lines_372 rfl 0 rfl ?_
  refine z_sipush (v := (1000 : Int32)) C dL_lines_373 (by decide) ?_
  obtain ⟨t1, q1, hr⟩ := hr
  have q1 : m_X7_taxOn 130 (1000 : Int32) s = some (.inl (94 : Int32), t1) := q1
  refine z_cV (vd := false) (Cn := RX7) (k := 0) C 1 [.int (1000 : Int32)] [] (c_X7_taxOn (zC_I C) (zC_st C) q1) (gc gq_taxOn) (by decide +kernel) kX0 vc7 rfl rfl dL_lines_376 rfl ⟨Nat.le_of_ble_eq_true rfl, Nat.le_of_ble_eq_true rfl⟩ rfl (Nat.le_of_ble_eq_true rfl) ?_
  refine z_bipush (v := (94 : Int32)) C dL_lines_379 (by decide) ?_
  refine z_icmp_ne (tgt := 513) C dL_lines_381 (by decide) (fun c => absurd (by decide) c) (fun _ => ?_)
  refine z_aload_n C dL_lines_384 rfl 0 rfl ?_
  refine z_sipush (v := (1100 : Int32)) C dL_lines_385 (by decide) ?_
  obtain ⟨t2, q2, hr⟩ := hr
  have q2 : m_X7_taxOn 130 (1100 : Int32) t1 = some (.inl (114 : Int32), t2) := q2
  refine z_cV (vd := false) (Cn := RX7) (k := 0) C 1 [.int (1100 : Int32)] [] (c_X7_taxOn (zC_I C) (zC_st C) q2) (gc gq_taxOn) (by decide +kernel) kX0 vc7 rfl rfl dL_lines_388 rfl ⟨Nat.le_of_ble_eq_true rfl, Nat.le_of_ble_eq_true rfl⟩ rfl (Nat.le_of_ble_eq_true rfl) ?_
  refine z_bipush (v := (114 : Int32)) C dL_lines_391 (by decide) ?_
  refine z_icmp_ne (tgt := 513) C dL_lines_393 (by decide) (fun c => absurd (by decide) c) (fun _ => ?_)
  refine z_aload_n C dL_lines_396 rfl 0 rfl ?_
  refine z_sipush (v := (1300 : Int32)) C dL_lines_397 (by decide) ?_
  obtain ⟨t3, q3, hr⟩ := hr
  have q3 : m_X7_taxOn 130 (1300 : Int32) t2 = some (.inl (184 : Int32), t3) := q3
  refine z_cV (vd := false) (Cn := RX7) (k := 0) C 1 [.int (1300 : Int32)] [] (c_X7_taxOn (zC_I C) (zC_st C) q3) (gc gq_taxOn) (by decide +kernel) kX0 vc7 rfl rfl dL_lines_400 rfl ⟨Nat.le_of_ble_eq_true rfl, Nat.le_of_ble_eq_true rfl⟩ rfl (Nat.le_of_ble_eq_true rfl) ?_
  refine z_sipush (v := (184 : Int32)) C dL_lines_403 (by decide) ?_
  refine z_icmp_ne (tgt := 513) C dL_lines_406 (by decide) (fun c => absurd (by decide) c) (fun _ => ?_)
  refine z_aload_n C dL_lines_409 rfl 0 rfl ?_
  refine z_bipush (v := (8 : Int32)) C dL_lines_410 (by decide) ?_
  obtain ⟨t4, q4, hr⟩ := hr
  have q4 : m_X7_value 130 (8 : Int32) t3 = some (.inl (184 : Int32), t4) := q4
  refine z_cV (vd := false) (Cn := RX7) (k := 0) C 1 [.int (8 : Int32)] [] (c_X7_value (zC_I C) (zC_st C) q4) (gc gq_value) (by decide +kernel) kX0 vc7 rfl rfl dL_lines_412 rfl ⟨Nat.le_of_ble_eq_true rfl, Nat.le_of_ble_eq_true rfl⟩ rfl (Nat.le_of_ble_eq_true rfl) ?_
  refine z_sipush (v := (184 : Int32)) C dL_lines_415 (by decide) ?_
  refine z_icmp_ne (tgt := 513) C dL_lines_418 (by decide) (fun c => absurd (by decide) c) (fun _ => ?_)
  refine z_aload_n C dL_lines_421 rfl 0 rfl ?_
  refine z_ldc (v := (1000000000 : Int32)) C ewq_lines_c90 dL_lines_422 ?_
  obtain ⟨t5, q5, hr⟩ := hr
  have q5 : m_X7_taxOn 130 (1000000000 : Int32) t4 = some (.inl (499999534 : Int32), t5) := q5
  refine z_cV (vd := false) (Cn := RX7) (k := 0) C 1 [.int (1000000000 : Int32)] [] (c_X7_taxOn (zC_I C) (zC_st C) q5) (gc gq_taxOn) (by decide +kernel) kX0 vc7 rfl rfl dL_lines_424 rfl ⟨Nat.le_of_ble_eq_true rfl, Nat.le_of_ble_eq_true rfl⟩ rfl (Nat.le_of_ble_eq_true rfl) ?_
  refine z_ldc (v := (499999534 : Int32)) C ewq_lines_c98 dL_lines_427 ?_
  refine z_icmp_ne (tgt := 513) C dL_lines_429 (by decide) (fun c => absurd (by decide) c) (fun _ => ?_)
  refine z_aload_n C dL_lines_432 rfl 0 rfl ?_
  refine z_bipush (v := (10 : Int32)) C dL_lines_433 (by decide) ?_
  refine z_bipush (v := (77 : Int32)) C dL_lines_435 (by decide) ?_
  obtain ⟨t6, q6, hr⟩ := hr
  have q6 : m_X7_boundFor 130 (10 : Int32) (77 : Int32) t5 = some (.inl (300 : Int32), t6) := q6
  refine z_cV (vd := false) (Cn := RX7) (k := 0) C 2 [.int (10 : Int32), .int (77 : Int32)] [] (c_X7_boundFor (zC_I C) (zC_st C) q6) (gc gq_boundFor) (by decide +kernel) kX0 vc7 rfl rfl dL_lines_437 rfl ⟨Nat.le_of_ble_eq_true rfl, Nat.le_of_ble_eq_true rfl⟩ rfl (Nat.le_of_ble_eq_true rfl) ?_
  refine z_sipush (v := (300 : Int32)) C dL_lines_440 (by decide) ?_
  refine z_icmp_ne (tgt := 513) C dL_lines_443 (by decide) (fun c => absurd (by decide) c) (fun _ => ?_)
  refine z_aload_n C dL_lines_446 rfl 0 rfl ?_
  refine z_bipush (v := (8 : Int32)) C dL_lines_447 (by decide) ?_
  refine z_iconst (v := (0 : Int32)) C dL_lines_449 (by decide) ?_
  obtain ⟨t7, q7, hr⟩ := hr
  have q7 : m_X7_dependsOn 130 (8 : Int32) (0 : Int32) t6 = some (.inl (1 : Int32), t7) := q7
  refine z_cV (vd := false) (Cn := RX7) (k := 0) C 2 [.int (8 : Int32), .int (0 : Int32)] [] (c_X7_dependsOn (zC_I C) (zC_st C) q7) (gc gq_dependsOn) (by decide +kernel) kX0 vc7 rfl rfl dL_lines_450 rfl ⟨Nat.le_of_ble_eq_true rfl, Nat.le_of_ble_eq_true rfl⟩ rfl (Nat.le_of_ble_eq_true rfl) ?_
  refine z_if_eq (tgt := 513) C dL_lines_453 (by decide) (fun c => absurd c (by decide)) (fun _ => ?_)
  refine z_aload_n C dL_lines_456 rfl 0 rfl ?_
  refine z_bipush (v := (8 : Int32)) C dL_lines_457 (by decide) ?_
  refine z_bipush (v := (8 : Int32)) C dL_lines_459 (by decide) ?_
  obtain ⟨t8, q8, hr⟩ := hr
  have q8 : m_X7_dependsOn 130 (8 : Int32) (8 : Int32) t7 = some (.inl (0 : Int32), t8) := q8
  refine z_cV (vd := false) (Cn := RX7) (k := 0) C 2 [.int (8 : Int32), .int (8 : Int32)] [] (c_X7_dependsOn (zC_I C) (zC_st C) q8) (gc gq_dependsOn) (by decide +kernel) kX0 vc7 rfl rfl dL_lines_461 rfl ⟨Nat.le_of_ble_eq_true rfl, Nat.le_of_ble_eq_true rfl⟩ rfl (Nat.le_of_ble_eq_true rfl) ?_
  refine z_if_ne (tgt := 513) C dL_lines_464 (by decide) (fun c => absurd (by decide) c) (fun _ => ?_)
  refine z_aload_n C dL_lines_467 rfl 0 rfl ?_
  refine z_iconst (v := (0 : Int32)) C dL_lines_468 (by decide) ?_
  refine z_bipush (v := (8 : Int32)) C dL_lines_469 (by decide) ?_
  obtain ⟨t9, q9, hr⟩ := hr
  have q9 : m_X7_dependsOn 130 (0 : Int32) (8 : Int32) t8 = some (.inl (0 : Int32), t9) := q9
  refine z_cV (vd := false) (Cn := RX7) (k := 0) C 2 [.int (0 : Int32), .int (8 : Int32)] [] (c_X7_dependsOn (zC_I C) (zC_st C) q9) (gc gq_dependsOn) (by decide +kernel) kX0 vc7 rfl rfl dL_lines_471 rfl ⟨Nat.le_of_ble_eq_true rfl, Nat.le_of_ble_eq_true rfl⟩ rfl (Nat.le_of_ble_eq_true rfl) ?_
  refine z_if_ne (tgt := 513) C dL_lines_474 (by decide) (fun c => absurd (by decide) c) (fun _ => ?_)
  have hr : t9 = s9 := hr
  subst hr
  exact kk _ C hQ hB
set_option maxRecDepth 100000 in
set_option maxHeartbeats 4000000 in
theorem wL_lines_6 {h : zH} {ad : Nat → Nat} {G : zG} (C : zCT [] h ad zLX 2 G cL_lines RL wq_lines 11 241) {QQ : zG → Prop} (hp : ∀ G, QQ G → QQ (zGp G)) (hq : ∀ G, QQ G → QQ (zGa G 180 1080)) (hQ : QQ G) {f : Nat} (hB : zBud G (f + 0)) {s s9 : zS} (hr : zRun sc_lines_6 s s9) (kk : ∀ G, zCT [] h ad zLX 2 G cL_lines RL wq_lines 11 241 → QQ G → zBud G f → zV h ad zLX 2 G s9 570 [(0, .ref (ad 0))] []) : zV h ad zLX 2 G s 477 [(0, .ref (ad 0))] [] := by
  refine z_aload_n C dL_lines_477 rfl 0 rfl ?_
  refine z_iconst (v := (0 : Int32)) C dL_lines_478 (by decide) ?_
  obtain ⟨t1, q1, hr⟩ := hr
  have q1 : m_X7_influence 130 (0 : Int32) s = some (.inl (4 : Int32), t1) := q1
  refine z_cV (vd := false) (Cn := RX7) (k := 0) C 1 [.int (0 : Int32)] [] (c_X7_influence (zC_I C) (zC_st C) q1) (gc gq_influence) (by decide +kernel) kX0 vc7 rfl rfl dL_lines_479 rfl ⟨Nat.le_of_ble_eq_true rfl, Nat.le_of_ble_eq_true rfl⟩ rfl (Nat.le_of_ble_eq_true rfl) ?_
  refine z_iconst (v := (4 : Int32)) C dL_lines_482 (by decide) ?_
  refine z_icmp_ne (tgt := 513) C dL_lines_483 (by decide) (fun c => absurd (by decide) c) (fun _ => ?_)
  refine z_aload_n C dL_lines_486 rfl 0 rfl ?_
  refine z_iconst (v := (1 : Int32)) C dL_lines_487 (by decide) ?_
  obtain ⟨t2, q2, hr⟩ := hr
  have q2 : m_X7_influence 130 (1 : Int32) t1 = some (.inl (5 : Int32), t2) := q2
  refine z_cV (vd := false) (Cn := RX7) (k := 0) C 1 [.int (1 : Int32)] [] (c_X7_influence (zC_I C) (zC_st C) q2) (gc gq_influence) (by decide +kernel) kX0 vc7 rfl rfl dL_lines_488 rfl ⟨Nat.le_of_ble_eq_true rfl, Nat.le_of_ble_eq_true rfl⟩ rfl (Nat.le_of_ble_eq_true rfl) ?_
  refine z_iconst (v := (5 : Int32)) C dL_lines_491 (by decide) ?_
  refine z_icmp_ne (tgt := 513) C dL_lines_492 (by decide) (fun c => absurd (by decide) c) (fun _ => ?_)
  refine z_aload_n C dL_lines_495 rfl 0 rfl ?_
  refine z_iconst (v := (2 : Int32)) C dL_lines_496 (by decide) ?_
  obtain ⟨t3, q3, hr⟩ := hr
  have q3 : m_X7_influence 130 (2 : Int32) t2 = some (.inl (0 : Int32), t3) := q3
  refine z_cV (vd := false) (Cn := RX7) (k := 0) C 1 [.int (2 : Int32)] [] (c_X7_influence (zC_I C) (zC_st C) q3) (gc gq_influence) (by decide +kernel) kX0 vc7 rfl rfl dL_lines_497 rfl ⟨Nat.le_of_ble_eq_true rfl, Nat.le_of_ble_eq_true rfl⟩ rfl (Nat.le_of_ble_eq_true rfl) ?_
  refine z_if_ne (tgt := 513) C dL_lines_500 (by decide) (fun c => absurd (by decide) c) (fun _ => ?_)
  refine z_aload_n C dL_lines_503 rfl 0 rfl ?_
  refine z_bipush (v := (11 : Int32)) C dL_lines_504 (by decide) ?_
  obtain ⟨t4, q4, hr⟩ := hr
  have q4 : m_X7_influence 130 (11 : Int32) t3 = some (.inl (1 : Int32), t4) := q4
  refine z_cV (vd := false) (Cn := RX7) (k := 0) C 1 [.int (11 : Int32)] [] (c_X7_influence (zC_I C) (zC_st C) q4) (gc gq_influence) (by decide +kernel) kX0 vc7 rfl rfl dL_lines_506 rfl ⟨Nat.le_of_ble_eq_true rfl, Nat.le_of_ble_eq_true rfl⟩ rfl (Nat.le_of_ble_eq_true rfl) ?_
  refine z_iconst (v := (1 : Int32)) C dL_lines_509 (by decide) ?_
  refine z_icmp_eq (tgt := 515) C dL_lines_510 (by decide) (fun _ => ?_) (fun c => absurd (by decide) c)
  refine z_aload_n C dL_lines_515 rfl 0 rfl ?_
  refine z_bipush (v := (8 : Int32)) C dL_lines_516 (by decide) ?_
  refine z_iconst (v := (0 : Int32)) C dL_lines_518 (by decide) ?_
  obtain ⟨t5, q5, hr⟩ := hr
  have q5 : m_X7_why 130 (8 : Int32) (0 : Int32) t4 = some (.inl (8 : Int32), t5) := q5
  refine z_cV (vd := false) (Cn := RX7) (k := 0) C 2 [.int (8 : Int32), .int (0 : Int32)] [] (c_X7_why (zC_I C) (zC_st C) q5) (gc gq_why) (by decide +kernel) kX0 vc7 rfl rfl dL_lines_519 rfl ⟨Nat.le_of_ble_eq_true rfl, Nat.le_of_ble_eq_true rfl⟩ rfl (Nat.le_of_ble_eq_true rfl) ?_
  refine z_bipush (v := (8 : Int32)) C dL_lines_522 (by decide) ?_
  refine z_icmp_ne (tgt := 654) C dL_lines_524 (by decide) (fun c => absurd (by decide) c) (fun _ => ?_)
  refine z_aload_n C dL_lines_527 rfl 0 rfl ?_
  refine z_bipush (v := (8 : Int32)) C dL_lines_528 (by decide) ?_
  refine z_iconst (v := (1 : Int32)) C dL_lines_530 (by decide) ?_
  obtain ⟨t6, q6, hr⟩ := hr
  have q6 : m_X7_why 130 (8 : Int32) (1 : Int32) t5 = some (.inl (2 : Int32), t6) := q6
  refine z_cV (vd := false) (Cn := RX7) (k := 0) C 2 [.int (8 : Int32), .int (1 : Int32)] [] (c_X7_why (zC_I C) (zC_st C) q6) (gc gq_why) (by decide +kernel) kX0 vc7 rfl rfl dL_lines_531 rfl ⟨Nat.le_of_ble_eq_true rfl, Nat.le_of_ble_eq_true rfl⟩ rfl (Nat.le_of_ble_eq_true rfl) ?_
  refine z_iconst (v := (2 : Int32)) C dL_lines_534 (by decide) ?_
  refine z_icmp_ne (tgt := 654) C dL_lines_535 (by decide) (fun c => absurd (by decide) c) (fun _ => ?_)
  refine z_aload_n C dL_lines_538 rfl 0 rfl ?_
  refine z_bipush (v := (8 : Int32)) C dL_lines_539 (by decide) ?_
  refine z_iconst (v := (2 : Int32)) C dL_lines_541 (by decide) ?_
  obtain ⟨t7, q7, hr⟩ := hr
  have q7 : m_X7_why 130 (8 : Int32) (2 : Int32) t6 = some (.inl (0 : Int32), t7) := q7
  refine z_cV (vd := false) (Cn := RX7) (k := 0) C 2 [.int (8 : Int32), .int (2 : Int32)] [] (c_X7_why (zC_I C) (zC_st C) q7) (gc gq_why) (by decide +kernel) kX0 vc7 rfl rfl dL_lines_542 rfl ⟨Nat.le_of_ble_eq_true rfl, Nat.le_of_ble_eq_true rfl⟩ rfl (Nat.le_of_ble_eq_true rfl) ?_
  refine z_if_ne (tgt := 654) C dL_lines_545 (by decide) (fun c => absurd (by decide) c) (fun _ => ?_)
  refine z_aload_n C dL_lines_548 rfl 0 rfl ?_
  refine z_bipush (v := (8 : Int32)) C dL_lines_549 (by decide) ?_
  refine z_iconst (v := (3 : Int32)) C dL_lines_551 (by decide) ?_
  obtain ⟨t8, q8, hr⟩ := hr
  have q8 : m_X7_why 130 (8 : Int32) (3 : Int32) t7 = some (.inl (1 : Int32), t8) := q8
  refine z_cV (vd := false) (Cn := RX7) (k := 0) C 2 [.int (8 : Int32), .int (3 : Int32)] [] (c_X7_why (zC_I C) (zC_st C) q8) (gc gq_why) (by decide +kernel) kX0 vc7 rfl rfl dL_lines_552 rfl ⟨Nat.le_of_ble_eq_true rfl, Nat.le_of_ble_eq_true rfl⟩ rfl (Nat.le_of_ble_eq_true rfl) ?_
  refine z_iconst (v := (1 : Int32)) C dL_lines_555 (by decide) ?_
  refine z_icmp_ne (tgt := 654) C dL_lines_556 (by decide) (fun c => absurd (by decide) c) (fun _ => ?_)
  refine z_aload_n C dL_lines_559 rfl 0 rfl ?_
  refine z_bipush (v := (8 : Int32)) C dL_lines_560 (by decide) ?_
  refine z_iconst (v := (4 : Int32)) C dL_lines_562 (by decide) ?_
  obtain ⟨t9, q9, hr⟩ := hr
  have q9 : m_X7_why 130 (8 : Int32) (4 : Int32) t8 = some (.inl (-1 : Int32), t9) := q9
  refine z_cV (vd := false) (Cn := RX7) (k := 0) C 2 [.int (8 : Int32), .int (4 : Int32)] [] (c_X7_why (zC_I C) (zC_st C) q9) (gc gq_why) (by decide +kernel) kX0 vc7 rfl rfl dL_lines_563 rfl ⟨Nat.le_of_ble_eq_true rfl, Nat.le_of_ble_eq_true rfl⟩ rfl (Nat.le_of_ble_eq_true rfl) ?_
  refine z_iconst (v := (-1 : Int32)) C dL_lines_566 (by decide) ?_
  refine z_icmp_ne (tgt := 654) C dL_lines_567 (by decide) (fun c => absurd (by decide) c) (fun _ => ?_)
  have hr : t9 = s9 := hr
  subst hr
  exact kk _ C hQ hB
set_option maxRecDepth 100000 in
set_option maxHeartbeats 4000000 in
theorem wL_lines_7 {h : zH} {ad : Nat → Nat} {G : zG} (C : zCT [] h ad zLX 2 G cL_lines RL wq_lines 11 241) {QQ : zG → Prop} (hp : ∀ G, QQ G → QQ (zGp G)) (hq : ∀ G, QQ G → QQ (zGa G 180 1080)) (hQ : QQ G) {f : Nat} (hB : zBud G (f + 0)) {s s9 : zS} (hr : zRun sc_lines_7 s s9) (kk : ∀ G, zCT [] h ad zLX 2 G cL_lines RL wq_lines 11 241 → QQ G → zBud G f → zV h ad zLX 2 G s9 665 [(0, .ref (ad 0))] []) : zV h ad zLX 2 G s 570 [(0, .ref (ad 0))] [] := by
  refine z_aload_n C dL_lines_570 rfl 0 rfl ?_
  refine z_bipush (v := (6 : Int32)) C dL_lines_571 (by decide) ?_
  refine z_iconst (v := (1 : Int32)) C dL_lines_573 (by decide) ?_
  obtain ⟨t1, q1, hr⟩ := hr
  have q1 : m_X7_why 130 (6 : Int32) (1 : Int32) s = some (.inl (1 : Int32), t1) := q1
  refine z_cV (vd := false) (Cn := RX7) (k := 0) C 2 [.int (6 : Int32), .int (1 : Int32)] [] (c_X7_why (zC_I C) (zC_st C) q1) (gc gq_why) (by decide +kernel) kX0 vc7 rfl rfl dL_lines_574 rfl ⟨Nat.le_of_ble_eq_true rfl, Nat.le_of_ble_eq_true rfl⟩ rfl (Nat.le_of_ble_eq_true rfl) ?_
  refine z_iconst (v := (1 : Int32)) C dL_lines_577 (by decide) ?_
  refine z_icmp_ne (tgt := 654) C dL_lines_578 (by decide) (fun c => absurd (by decide) c) (fun _ => ?_)
  refine z_aload_n C dL_lines_581 rfl 0 rfl ?_
  refine z_bipush (v := (6 : Int32)) C dL_lines_582 (by decide) ?_
  refine z_iconst (v := (2 : Int32)) C dL_lines_584 (by decide) ?_
  obtain ⟨t2, q2, hr⟩ := hr
  have q2 : m_X7_why 130 (6 : Int32) (2 : Int32) t1 = some (.inl (-1 : Int32), t2) := q2
  refine z_cV (vd := false) (Cn := RX7) (k := 0) C 2 [.int (6 : Int32), .int (2 : Int32)] [] (c_X7_why (zC_I C) (zC_st C) q2) (gc gq_why) (by decide +kernel) kX0 vc7 rfl rfl dL_lines_585 rfl ⟨Nat.le_of_ble_eq_true rfl, Nat.le_of_ble_eq_true rfl⟩ rfl (Nat.le_of_ble_eq_true rfl) ?_
  refine z_iconst (v := (-1 : Int32)) C dL_lines_588 (by decide) ?_
  refine z_icmp_ne (tgt := 654) C dL_lines_589 (by decide) (fun c => absurd (by decide) c) (fun _ => ?_)
  refine z_aload_n C dL_lines_592 rfl 0 rfl ?_
  refine z_bipush (v := (7 : Int32)) C dL_lines_593 (by decide) ?_
  refine z_iconst (v := (1 : Int32)) C dL_lines_595 (by decide) ?_
  obtain ⟨t3, q3, hr⟩ := hr
  have q3 : m_X7_why 130 (7 : Int32) (1 : Int32) t2 = some (.inl (0 : Int32), t3) := q3
  refine z_cV (vd := false) (Cn := RX7) (k := 0) C 2 [.int (7 : Int32), .int (1 : Int32)] [] (c_X7_why (zC_I C) (zC_st C) q3) (gc gq_why) (by decide +kernel) kX0 vc7 rfl rfl dL_lines_596 rfl ⟨Nat.le_of_ble_eq_true rfl, Nat.le_of_ble_eq_true rfl⟩ rfl (Nat.le_of_ble_eq_true rfl) ?_
  refine z_if_ne (tgt := 654) C dL_lines_599 (by decide) (fun c => absurd (by decide) c) (fun _ => ?_)
  refine z_aload_n C dL_lines_602 rfl 0 rfl ?_
  refine z_bipush (v := (10 : Int32)) C dL_lines_603 (by decide) ?_
  refine z_iconst (v := (1 : Int32)) C dL_lines_605 (by decide) ?_
  obtain ⟨t4, q4, hr⟩ := hr
  have q4 : m_X7_why 130 (10 : Int32) (1 : Int32) t3 = some (.inl (1 : Int32), t4) := q4
  refine z_cV (vd := false) (Cn := RX7) (k := 0) C 2 [.int (10 : Int32), .int (1 : Int32)] [] (c_X7_why (zC_I C) (zC_st C) q4) (gc gq_why) (by decide +kernel) kX0 vc7 rfl rfl dL_lines_606 rfl ⟨Nat.le_of_ble_eq_true rfl, Nat.le_of_ble_eq_true rfl⟩ rfl (Nat.le_of_ble_eq_true rfl) ?_
  refine z_iconst (v := (1 : Int32)) C dL_lines_609 (by decide) ?_
  refine z_icmp_ne (tgt := 654) C dL_lines_610 (by decide) (fun c => absurd (by decide) c) (fun _ => ?_)
  refine z_aload_n C dL_lines_613 rfl 0 rfl ?_
  refine z_iconst (v := (0 : Int32)) C dL_lines_614 (by decide) ?_
  refine z_iconst (v := (1 : Int32)) C dL_lines_615 (by decide) ?_
  obtain ⟨t5, q5, hr⟩ := hr
  have q5 : m_X7_why 130 (0 : Int32) (1 : Int32) t4 = some (.inl (-1 : Int32), t5) := q5
  refine z_cV (vd := false) (Cn := RX7) (k := 0) C 2 [.int (0 : Int32), .int (1 : Int32)] [] (c_X7_why (zC_I C) (zC_st C) q5) (gc gq_why) (by decide +kernel) kX0 vc7 rfl rfl dL_lines_616 rfl ⟨Nat.le_of_ble_eq_true rfl, Nat.le_of_ble_eq_true rfl⟩ rfl (Nat.le_of_ble_eq_true rfl) ?_
  refine z_iconst (v := (-1 : Int32)) C dL_lines_619 (by decide) ?_
  refine z_icmp_ne (tgt := 654) C dL_lines_620 (by decide) (fun c => absurd (by decide) c) (fun _ => ?_)
  refine z_aload_n C dL_lines_623 rfl 0 rfl ?_
  refine z_bipush (v := (9 : Int32)) C dL_lines_624 (by decide) ?_
  refine z_iconst (v := (1 : Int32)) C dL_lines_626 (by decide) ?_
  obtain ⟨t6, q6, hr⟩ := hr
  have q6 : m_X7_why 130 (9 : Int32) (1 : Int32) t5 = some (.inl (0 : Int32), t6) := q6
  refine z_cV (vd := false) (Cn := RX7) (k := 0) C 2 [.int (9 : Int32), .int (1 : Int32)] [] (c_X7_why (zC_I C) (zC_st C) q6) (gc gq_why) (by decide +kernel) kX0 vc7 rfl rfl dL_lines_627 rfl ⟨Nat.le_of_ble_eq_true rfl, Nat.le_of_ble_eq_true rfl⟩ rfl (Nat.le_of_ble_eq_true rfl) ?_
  refine z_if_ne (tgt := 654) C dL_lines_630 (by decide) (fun c => absurd (by decide) c) (fun _ => ?_)
  refine z_aload_n C dL_lines_633 rfl 0 rfl ?_
  refine z_iconst (v := (3 : Int32)) C dL_lines_634 (by decide) ?_
  refine z_iconst (v := (2 : Int32)) C dL_lines_635 (by decide) ?_
  obtain ⟨t7, q7, hr⟩ := hr
  have q7 : m_X7_why 130 (3 : Int32) (2 : Int32) t6 = some (.inl (1 : Int32), t7) := q7
  refine z_cV (vd := false) (Cn := RX7) (k := 0) C 2 [.int (3 : Int32), .int (2 : Int32)] [] (c_X7_why (zC_I C) (zC_st C) q7) (gc gq_why) (by decide +kernel) kX0 vc7 rfl rfl dL_lines_636 rfl ⟨Nat.le_of_ble_eq_true rfl, Nat.le_of_ble_eq_true rfl⟩ rfl (Nat.le_of_ble_eq_true rfl) ?_
  refine z_iconst (v := (1 : Int32)) C dL_lines_639 (by decide) ?_
  refine z_icmp_ne (tgt := 654) C dL_lines_640 (by decide) (fun c => absurd (by decide) c) (fun _ => ?_)
  refine z_aload_n C dL_lines_643 rfl 0 rfl ?_
  refine z_iconst (v := (5 : Int32)) C dL_lines_644 (by decide) ?_
  refine z_ldc (v := (2147483647 : Int32)) C ewq_lines_c77 dL_lines_645 ?_
  obtain ⟨t8, q8, hr⟩ := hr
  have q8 : m_X7_why 130 (5 : Int32) (2147483647 : Int32) t7 = some (.inl (-1 : Int32), t8) := q8
  refine z_cV (vd := false) (Cn := RX7) (k := 0) C 2 [.int (5 : Int32), .int (2147483647 : Int32)] [] (c_X7_why (zC_I C) (zC_st C) q8) (gc gq_why) (by decide +kernel) kX0 vc7 rfl rfl dL_lines_647 rfl ⟨Nat.le_of_ble_eq_true rfl, Nat.le_of_ble_eq_true rfl⟩ rfl (Nat.le_of_ble_eq_true rfl) ?_
  refine z_iconst (v := (-1 : Int32)) C dL_lines_650 (by decide) ?_
  refine z_icmp_eq (tgt := 656) C dL_lines_651 (by decide) (fun _ => ?_) (fun c => absurd (by decide) c)
  refine z_aload_n C dL_lines_656 rfl 0 rfl ?_
  refine z_iconst (v := (2 : Int32)) C dL_lines_657 (by decide) ?_
  refine z_iconst (v := (5 : Int32)) C dL_lines_658 (by decide) ?_
  obtain ⟨t9, q9, hr⟩ := hr
  have q9 : m_X7_answer 130 (2 : Int32) (5 : Int32) t8 = some (.inl (0 : Int32), t9) := q9
  refine z_cV (vd := false) (Cn := RX7) (k := 0) C 2 [.int (2 : Int32), .int (5 : Int32)] [] (c_X7_answer (zC_I C) (zC_st C) q9) (gc gq_answer) (by decide +kernel) kX0 vc7 rfl rfl dL_lines_659 rfl ⟨Nat.le_of_ble_eq_true rfl, Nat.le_of_ble_eq_true rfl⟩ rfl (Nat.le_of_ble_eq_true rfl) ?_
  refine z_if_ne (tgt := 726) C dL_lines_662 (by decide) (fun c => absurd (by decide) c) (fun _ => ?_)
  have hr : t9 = s9 := hr
  subst hr
  exact kk _ C hQ hB
set_option maxRecDepth 100000 in
set_option maxHeartbeats 4000000 in
theorem wL_lines_8 {h : zH} {ad : Nat → Nat} {G : zG} (C : zCT [] h ad zLX 2 G cL_lines RL wq_lines 11 241) {QQ : zG → Prop} (hp : ∀ G, QQ G → QQ (zGp G)) (hq : ∀ G, QQ G → QQ (zGa G 180 1080)) (hQ : QQ G) {f : Nat} (hB : zBud G (f + 4)) {s s9 : zS} (hr : zRun sc_lines_8 s s9) (kk : ∀ G, zCT [] h ad zLX 2 G cL_lines RL wq_lines 11 241 → QQ G → zBud G f → zV h ad zLX 2 G s9 736 [(1, .int (3 : Int32)), (0, .ref (ad 0))] []) : zV h ad zLX 2 G s 665 [(0, .ref (ad 0))] [] := by
  refine z_aload_n C dL_lines_665 rfl 0 rfl ?_
  refine z_iconst (v := (2 : Int32)) C dL_lines_666 (by decide) ?_
  obtain ⟨t1, q1, hr⟩ := hr
  have q1 : m_X7_value 130 (2 : Int32) s = some (.inl (1300 : Int32), t1) := q1
  refine z_cV (vd := false) (Cn := RX7) (k := 0) C 1 [.int (2 : Int32)] [] (c_X7_value (zC_I C) (zC_st C) q1) (gc gq_value) (by decide +kernel) kX0 vc7 rfl rfl dL_lines_667 rfl ⟨Nat.le_of_ble_eq_true rfl, Nat.le_of_ble_eq_true rfl⟩ rfl (Nat.le_of_ble_eq_true rfl) ?_
  refine z_sipush (v := (1300 : Int32)) C dL_lines_670 (by decide) ?_
  refine z_icmp_ne (tgt := 726) C dL_lines_673 (by decide) (fun c => absurd (by decide) c) (fun _ => ?_)
  refine z_aload_n C dL_lines_676 rfl 0 rfl ?_
  refine z_iconst (v := (2 : Int32)) C dL_lines_677 (by decide) ?_
  refine z_iconst (v := (0 : Int32)) C dL_lines_678 (by decide) ?_
  refine z_bipush (v := (-9 : Int32)) C dL_lines_679 (by decide) ?_
  refine z_bipush (v := (99 : Int32)) C dL_lines_681 (by decide) ?_
  obtain ⟨t2, q2, hr⟩ := hr
  have q2 : m_X7_define 130 (2 : Int32) (0 : Int32) (-9 : Int32) (99 : Int32) t1 = some (.inl (0 : Int32), t2) := q2
  refine z_lS C 5 [.ref (ad 0), .int (2 : Int32), .int (0 : Int32), .int (-9 : Int32), .int (99 : Int32)] [] (zBud_r hB) (cL_define_v (zC_I C) (zC_st C) q2) (gc gq_L_define) (by decide +kernel) rfl dL_lines_683 rfl ⟨Nat.le_of_ble_eq_true rfl, Nat.le_of_ble_eq_true rfl⟩ rfl (Nat.le_of_ble_eq_true rfl) ?_
  have C := zCT_p C (zBud_r hB); have hQ := hp _ hQ; have hB := zBud_p hB
  refine z_if_ne (tgt := 726) C dL_lines_686 (by decide) (fun c => absurd (by decide) c) (fun _ => ?_)
  refine z_aload_n C dL_lines_689 rfl 0 rfl ?_
  refine z_iconst (v := (2 : Int32)) C dL_lines_690 (by decide) ?_
  obtain ⟨t3, q3, hr⟩ := hr
  have q3 : m_X7_value 130 (2 : Int32) t2 = some (.inl (5 : Int32), t3) := q3
  refine z_cV (vd := false) (Cn := RX7) (k := 0) C 1 [.int (2 : Int32)] [] (c_X7_value (zC_I C) (zC_st C) q3) (gc gq_value) (by decide +kernel) kX0 vc7 rfl rfl dL_lines_691 rfl ⟨Nat.le_of_ble_eq_true rfl, Nat.le_of_ble_eq_true rfl⟩ rfl (Nat.le_of_ble_eq_true rfl) ?_
  refine z_iconst (v := (5 : Int32)) C dL_lines_694 (by decide) ?_
  refine z_icmp_ne (tgt := 726) C dL_lines_695 (by decide) (fun c => absurd (by decide) c) (fun _ => ?_)
  refine z_aload_n C dL_lines_698 rfl 0 rfl ?_
  refine z_iconst (v := (2 : Int32)) C dL_lines_699 (by decide) ?_
  refine z_iconst (v := (0 : Int32)) C dL_lines_700 (by decide) ?_
  obtain ⟨t4, q4, hr⟩ := hr
  have q4 : m_X7_answer 130 (2 : Int32) (0 : Int32) t3 = some (.inl (5 : Int32), t4) := q4
  refine z_cV (vd := false) (Cn := RX7) (k := 0) C 2 [.int (2 : Int32), .int (0 : Int32)] [] (c_X7_answer (zC_I C) (zC_st C) q4) (gc gq_answer) (by decide +kernel) kX0 vc7 rfl rfl dL_lines_701 rfl ⟨Nat.le_of_ble_eq_true rfl, Nat.le_of_ble_eq_true rfl⟩ rfl (Nat.le_of_ble_eq_true rfl) ?_
  refine z_iconst (v := (5 : Int32)) C dL_lines_704 (by decide) ?_
  refine z_icmp_ne (tgt := 726) C dL_lines_705 (by decide) (fun c => absurd (by decide) c) (fun _ => ?_)
  refine z_aload_n C dL_lines_708 rfl 0 rfl ?_
  obtain ⟨t5, q5, hr⟩ := hr
  have q5 : m_X7_dropBrackets 130 t4 = some ((3 : Int32), t5) := zNl_of q5
  refine z_cV (vd := false) (Cn := RX7) (k := 0) C 0 [] [] (c_X7_dropBrackets (zC_I C) (zC_st C) q5) (gc gq_dropBrackets) (by decide +kernel) kX0 vc7 rfl rfl dL_lines_709 rfl ⟨Nat.le_of_ble_eq_true rfl, Nat.le_of_ble_eq_true rfl⟩ rfl (Nat.le_of_ble_eq_true rfl) ?_
  refine z_iconst (v := (3 : Int32)) C dL_lines_712 (by decide) ?_
  refine z_icmp_ne (tgt := 726) C dL_lines_713 (by decide) (fun c => absurd (by decide) c) (fun _ => ?_)
  refine z_aload_n C dL_lines_716 rfl 0 rfl ?_
  refine z_sipush (v := (1300 : Int32)) C dL_lines_717 (by decide) ?_
  obtain ⟨t6, q6, hr⟩ := hr
  have q6 : m_X7_taxOn 130 (1300 : Int32) t5 = some (.inl (0 : Int32), t6) := q6
  refine z_cV (vd := false) (Cn := RX7) (k := 0) C 1 [.int (1300 : Int32)] [] (c_X7_taxOn (zC_I C) (zC_st C) q6) (gc gq_taxOn) (by decide +kernel) kX0 vc7 rfl rfl dL_lines_720 rfl ⟨Nat.le_of_ble_eq_true rfl, Nat.le_of_ble_eq_true rfl⟩ rfl (Nat.le_of_ble_eq_true rfl) ?_
  refine z_if_eq (tgt := 728) C dL_lines_723 (by decide) (fun _ => ?_) (fun c => absurd (by decide) c)
  refine z_iconst (v := (0 : Int32)) C dL_lines_728 (by decide) ?_
  refine z_istore_n (y := (0 : Int32)) (lv' := [(1, .int (0 : Int32)), (0, .ref (ad 0))]) C dL_lines_729 rfl (by decide) rfl rfl ?_
  refine z_iload_n C dL_lines_730 rfl 0 rfl ?_
  refine z_bipush (v := (6 : Int32)) C dL_lines_731 (by decide) ?_
  refine z_icmp_ge (tgt := 773) C dL_lines_733 (by decide) (fun c => absurd c (by decide)) (fun _ => ?_)
  refine z_aload_n C dL_lines_736 rfl 1 rfl ?_
  refine z_bipush (v := (7 : Int32)) C dL_lines_737 (by decide) ?_
  refine z_bipush (v := (10 : Int32)) C dL_lines_739 (by decide) ?_
  refine z_iload_n C dL_lines_741 rfl 0 rfl ?_
  refine z_imul C dL_lines_742 ?_
  refine z_top (y := (0 : Int32)) (by decide) ?_
  refine z_sipush (v := (1000 : Int32)) C dL_lines_743 (by decide) ?_
  obtain ⟨t7, q7, hr⟩ := hr
  have q7 : m_X7_bracket 130 (0 : Int32) (1000 : Int32) t6 = some (.inl (1 : Int32), t7) := q7
  refine z_lS C 4 [.ref (ad 0), .int (7 : Int32), .int (0 : Int32), .int (1000 : Int32)] [] (zBud_r hB) (cL_act_bracket_v (zC_I C) (zC_st C) q7) (gc gq_L_act) (by decide +kernel) rfl dL_lines_746 rfl ⟨Nat.le_of_ble_eq_true rfl, Nat.le_of_ble_eq_true rfl⟩ rfl (Nat.le_of_ble_eq_true rfl) ?_
  have C := zCT_p C (zBud_r hB); have hQ := hp _ hQ; have hB := zBud_p hB
  refine z_iload_n C dL_lines_749 rfl 0 rfl ?_
  refine z_iconst (v := (5 : Int32)) C dL_lines_750 (by decide) ?_
  refine z_icmp_ge (tgt := 760) C dL_lines_751 (by decide) (fun c => absurd c (by decide)) (fun _ => ?_)
  refine z_iload_n C dL_lines_754 rfl 0 rfl ?_
  refine z_iconst (v := (1 : Int32)) C dL_lines_755 (by decide) ?_
  refine z_iadd C dL_lines_756 ?_
  refine z_top (y := (1 : Int32)) (by decide) ?_
  refine z_goto (tgt := 762) C dL_lines_757 (by decide) ?_
  refine z_icmp_eq (tgt := 767) C dL_lines_762 (by decide) (fun _ => ?_) (fun c => absurd (by decide) c)
  refine z_iinc (j := 0) (v := (1 : Int32)) (d := (1 : Int32)) (lv' := [(1, .int (1 : Int32)), (0, .ref (ad 0))]) C dL_lines_767 rfl (by decide) (by decide) (by decide) rfl ?_
  refine z_goto (tgt := 730) C dL_lines_770 (by decide) ?_
  refine z_iload_n C dL_lines_730 rfl 0 rfl ?_
  refine z_bipush (v := (6 : Int32)) C dL_lines_731 (by decide) ?_
  refine z_icmp_ge (tgt := 773) C dL_lines_733 (by decide) (fun c => absurd c (by decide)) (fun _ => ?_)
  refine z_aload_n C dL_lines_736 rfl 1 rfl ?_
  refine z_bipush (v := (7 : Int32)) C dL_lines_737 (by decide) ?_
  refine z_bipush (v := (10 : Int32)) C dL_lines_739 (by decide) ?_
  refine z_iload_n C dL_lines_741 rfl 0 rfl ?_
  refine z_imul C dL_lines_742 ?_
  refine z_top (y := (10 : Int32)) (by decide) ?_
  refine z_sipush (v := (1000 : Int32)) C dL_lines_743 (by decide) ?_
  obtain ⟨t8, q8, hr⟩ := hr
  have q8 : m_X7_bracket 130 (10 : Int32) (1000 : Int32) t7 = some (.inl (2 : Int32), t8) := q8
  refine z_lS C 4 [.ref (ad 0), .int (7 : Int32), .int (10 : Int32), .int (1000 : Int32)] [] (zBud_r hB) (cL_act_bracket_v (zC_I C) (zC_st C) q8) (gc gq_L_act) (by decide +kernel) rfl dL_lines_746 rfl ⟨Nat.le_of_ble_eq_true rfl, Nat.le_of_ble_eq_true rfl⟩ rfl (Nat.le_of_ble_eq_true rfl) ?_
  have C := zCT_p C (zBud_r hB); have hQ := hp _ hQ; have hB := zBud_p hB
  refine z_iload_n C dL_lines_749 rfl 0 rfl ?_
  refine z_iconst (v := (5 : Int32)) C dL_lines_750 (by decide) ?_
  refine z_icmp_ge (tgt := 760) C dL_lines_751 (by decide) (fun c => absurd c (by decide)) (fun _ => ?_)
  refine z_iload_n C dL_lines_754 rfl 0 rfl ?_
  refine z_iconst (v := (1 : Int32)) C dL_lines_755 (by decide) ?_
  refine z_iadd C dL_lines_756 ?_
  refine z_top (y := (2 : Int32)) (by decide) ?_
  refine z_goto (tgt := 762) C dL_lines_757 (by decide) ?_
  refine z_icmp_eq (tgt := 767) C dL_lines_762 (by decide) (fun _ => ?_) (fun c => absurd (by decide) c)
  refine z_iinc (j := 0) (v := (2 : Int32)) (d := (1 : Int32)) (lv' := [(1, .int (2 : Int32)), (0, .ref (ad 0))]) C dL_lines_767 rfl (by decide) (by decide) (by decide) rfl ?_
  refine z_goto (tgt := 730) C dL_lines_770 (by decide) ?_
  refine z_iload_n C dL_lines_730 rfl 0 rfl ?_
  refine z_bipush (v := (6 : Int32)) C dL_lines_731 (by decide) ?_
  refine z_icmp_ge (tgt := 773) C dL_lines_733 (by decide) (fun c => absurd c (by decide)) (fun _ => ?_)
  refine z_aload_n C dL_lines_736 rfl 1 rfl ?_
  refine z_bipush (v := (7 : Int32)) C dL_lines_737 (by decide) ?_
  refine z_bipush (v := (10 : Int32)) C dL_lines_739 (by decide) ?_
  refine z_iload_n C dL_lines_741 rfl 0 rfl ?_
  refine z_imul C dL_lines_742 ?_
  refine z_top (y := (20 : Int32)) (by decide) ?_
  refine z_sipush (v := (1000 : Int32)) C dL_lines_743 (by decide) ?_
  obtain ⟨t9, q9, hr⟩ := hr
  have q9 : m_X7_bracket 130 (20 : Int32) (1000 : Int32) t8 = some (.inl (3 : Int32), t9) := q9
  refine z_lS C 4 [.ref (ad 0), .int (7 : Int32), .int (20 : Int32), .int (1000 : Int32)] [] (zBud_r hB) (cL_act_bracket_v (zC_I C) (zC_st C) q9) (gc gq_L_act) (by decide +kernel) rfl dL_lines_746 rfl ⟨Nat.le_of_ble_eq_true rfl, Nat.le_of_ble_eq_true rfl⟩ rfl (Nat.le_of_ble_eq_true rfl) ?_
  have C := zCT_p C (zBud_r hB); have hQ := hp _ hQ; have hB := zBud_p hB
  refine z_iload_n C dL_lines_749 rfl 0 rfl ?_
  refine z_iconst (v := (5 : Int32)) C dL_lines_750 (by decide) ?_
  refine z_icmp_ge (tgt := 760) C dL_lines_751 (by decide) (fun c => absurd c (by decide)) (fun _ => ?_)
  refine z_iload_n C dL_lines_754 rfl 0 rfl ?_
  refine z_iconst (v := (1 : Int32)) C dL_lines_755 (by decide) ?_
  refine z_iadd C dL_lines_756 ?_
  refine z_top (y := (3 : Int32)) (by decide) ?_
  refine z_goto (tgt := 762) C dL_lines_757 (by decide) ?_
  refine z_icmp_eq (tgt := 767) C dL_lines_762 (by decide) (fun _ => ?_) (fun c => absurd (by decide) c)
  refine z_iinc (j := 0) (v := (3 : Int32)) (d := (1 : Int32)) (lv' := [(1, .int (3 : Int32)), (0, .ref (ad 0))]) C dL_lines_767 rfl (by decide) (by decide) (by decide) rfl ?_
  refine z_goto (tgt := 730) C dL_lines_770 (by decide) ?_
  refine z_iload_n C dL_lines_730 rfl 0 rfl ?_
  refine z_bipush (v := (6 : Int32)) C dL_lines_731 (by decide) ?_
  refine z_icmp_ge (tgt := 773) C dL_lines_733 (by decide) (fun c => absurd c (by decide)) (fun _ => ?_)
  have hr : t9 = s9 := hr
  subst hr
  exact kk _ C hQ hB
set_option maxRecDepth 100000 in
set_option maxHeartbeats 4000000 in
theorem wL_lines_9 {h : zH} {ad : Nat → Nat} {G : zG} (C : zCT [] h ad zLX 2 G cL_lines RL wq_lines 11 241) {QQ : zG → Prop} (hp : ∀ G, QQ G → QQ (zGp G)) (hq : ∀ G, QQ G → QQ (zGa G 180 1080)) (hQ : QQ G) {f : Nat} (hB : zBud G (f + 4)) {s s9 : zS} (hr : zRun sc_lines_9 s s9) (kk : ∀ G, zCT [] h ad zLX 2 G cL_lines RL wq_lines 11 241 → QQ G → zBud G f → zV h ad zLX 2 G s9 797 [(1, .int (6 : Int32)), (0, .ref (ad 0))] []) : zV h ad zLX 2 G s 736 [(1, .int (3 : Int32)), (0, .ref (ad 0))] [] := by
  refine z_aload_n C dL_lines_736 rfl 1 rfl ?_
  refine z_bipush (v := (7 : Int32)) C dL_lines_737 (by decide) ?_
  refine z_bipush (v := (10 : Int32)) C dL_lines_739 (by decide) ?_
  refine z_iload_n C dL_lines_741 rfl 0 rfl ?_
  refine z_imul C dL_lines_742 ?_
  refine z_top (y := (30 : Int32)) (by decide) ?_
  refine z_sipush (v := (1000 : Int32)) C dL_lines_743 (by decide) ?_
  obtain ⟨t1, q1, hr⟩ := hr
  have q1 : m_X7_bracket 130 (30 : Int32) (1000 : Int32) s = some (.inl (4 : Int32), t1) := q1
  refine z_lS C 4 [.ref (ad 0), .int (7 : Int32), .int (30 : Int32), .int (1000 : Int32)] [] (zBud_r hB) (cL_act_bracket_v (zC_I C) (zC_st C) q1) (gc gq_L_act) (by decide +kernel) rfl dL_lines_746 rfl ⟨Nat.le_of_ble_eq_true rfl, Nat.le_of_ble_eq_true rfl⟩ rfl (Nat.le_of_ble_eq_true rfl) ?_
  have C := zCT_p C (zBud_r hB); have hQ := hp _ hQ; have hB := zBud_p hB
  refine z_iload_n C dL_lines_749 rfl 0 rfl ?_
  refine z_iconst (v := (5 : Int32)) C dL_lines_750 (by decide) ?_
  refine z_icmp_ge (tgt := 760) C dL_lines_751 (by decide) (fun c => absurd c (by decide)) (fun _ => ?_)
  refine z_iload_n C dL_lines_754 rfl 0 rfl ?_
  refine z_iconst (v := (1 : Int32)) C dL_lines_755 (by decide) ?_
  refine z_iadd C dL_lines_756 ?_
  refine z_top (y := (4 : Int32)) (by decide) ?_
  refine z_goto (tgt := 762) C dL_lines_757 (by decide) ?_
  refine z_icmp_eq (tgt := 767) C dL_lines_762 (by decide) (fun _ => ?_) (fun c => absurd (by decide) c)
  refine z_iinc (j := 0) (v := (4 : Int32)) (d := (1 : Int32)) (lv' := [(1, .int (4 : Int32)), (0, .ref (ad 0))]) C dL_lines_767 rfl (by decide) (by decide) (by decide) rfl ?_
  refine z_goto (tgt := 730) C dL_lines_770 (by decide) ?_
  refine z_iload_n C dL_lines_730 rfl 0 rfl ?_
  refine z_bipush (v := (6 : Int32)) C dL_lines_731 (by decide) ?_
  refine z_icmp_ge (tgt := 773) C dL_lines_733 (by decide) (fun c => absurd c (by decide)) (fun _ => ?_)
  refine z_aload_n C dL_lines_736 rfl 1 rfl ?_
  refine z_bipush (v := (7 : Int32)) C dL_lines_737 (by decide) ?_
  refine z_bipush (v := (10 : Int32)) C dL_lines_739 (by decide) ?_
  refine z_iload_n C dL_lines_741 rfl 0 rfl ?_
  refine z_imul C dL_lines_742 ?_
  refine z_top (y := (40 : Int32)) (by decide) ?_
  refine z_sipush (v := (1000 : Int32)) C dL_lines_743 (by decide) ?_
  obtain ⟨t2, q2, hr⟩ := hr
  have q2 : m_X7_bracket 130 (40 : Int32) (1000 : Int32) t1 = some (.inl (5 : Int32), t2) := q2
  refine z_lS C 4 [.ref (ad 0), .int (7 : Int32), .int (40 : Int32), .int (1000 : Int32)] [] (zBud_r hB) (cL_act_bracket_v (zC_I C) (zC_st C) q2) (gc gq_L_act) (by decide +kernel) rfl dL_lines_746 rfl ⟨Nat.le_of_ble_eq_true rfl, Nat.le_of_ble_eq_true rfl⟩ rfl (Nat.le_of_ble_eq_true rfl) ?_
  have C := zCT_p C (zBud_r hB); have hQ := hp _ hQ; have hB := zBud_p hB
  refine z_iload_n C dL_lines_749 rfl 0 rfl ?_
  refine z_iconst (v := (5 : Int32)) C dL_lines_750 (by decide) ?_
  refine z_icmp_ge (tgt := 760) C dL_lines_751 (by decide) (fun c => absurd c (by decide)) (fun _ => ?_)
  refine z_iload_n C dL_lines_754 rfl 0 rfl ?_
  refine z_iconst (v := (1 : Int32)) C dL_lines_755 (by decide) ?_
  refine z_iadd C dL_lines_756 ?_
  refine z_top (y := (5 : Int32)) (by decide) ?_
  refine z_goto (tgt := 762) C dL_lines_757 (by decide) ?_
  refine z_icmp_eq (tgt := 767) C dL_lines_762 (by decide) (fun _ => ?_) (fun c => absurd (by decide) c)
  refine z_iinc (j := 0) (v := (5 : Int32)) (d := (1 : Int32)) (lv' := [(1, .int (5 : Int32)), (0, .ref (ad 0))]) C dL_lines_767 rfl (by decide) (by decide) (by decide) rfl ?_
  refine z_goto (tgt := 730) C dL_lines_770 (by decide) ?_
  refine z_iload_n C dL_lines_730 rfl 0 rfl ?_
  refine z_bipush (v := (6 : Int32)) C dL_lines_731 (by decide) ?_
  refine z_icmp_ge (tgt := 773) C dL_lines_733 (by decide) (fun c => absurd c (by decide)) (fun _ => ?_)
  refine z_aload_n C dL_lines_736 rfl 1 rfl ?_
  refine z_bipush (v := (7 : Int32)) C dL_lines_737 (by decide) ?_
  refine z_bipush (v := (10 : Int32)) C dL_lines_739 (by decide) ?_
  refine z_iload_n C dL_lines_741 rfl 0 rfl ?_
  refine z_imul C dL_lines_742 ?_
  refine z_top (y := (50 : Int32)) (by decide) ?_
  refine z_sipush (v := (1000 : Int32)) C dL_lines_743 (by decide) ?_
  obtain ⟨t3, q3, hr⟩ := hr
  have q3 : m_X7_bracket 130 (50 : Int32) (1000 : Int32) t2 = some (.inr 3, t3) := q3
  refine z_lS C 4 [.ref (ad 0), .int (7 : Int32), .int (50 : Int32), .int (1000 : Int32)] [] (zBud_r hB) (cL_act_bracket_x3 (zC_I C) (zC_st C) q3) (gc gq_L_act) (by decide +kernel) rfl dL_lines_746 rfl ⟨Nat.le_of_ble_eq_true rfl, Nat.le_of_ble_eq_true rfl⟩ rfl (Nat.le_of_ble_eq_true rfl) ?_
  have C := zCT_p C (zBud_r hB); have hQ := hp _ hQ; have hB := zBud_p hB
  refine z_iload_n C dL_lines_749 rfl 0 rfl ?_
  refine z_iconst (v := (5 : Int32)) C dL_lines_750 (by decide) ?_
  refine z_icmp_ge (tgt := 760) C dL_lines_751 (by decide) (fun _ => ?_) (fun c => absurd (by decide) c)
  refine z_bipush (v := (-73 : Int32)) C dL_lines_760 (by decide) ?_
  refine z_icmp_eq (tgt := 767) C dL_lines_762 (by decide) (fun _ => ?_) (fun c => absurd (by decide) c)
  refine z_iinc (j := 0) (v := (6 : Int32)) (d := (1 : Int32)) (lv' := [(1, .int (6 : Int32)), (0, .ref (ad 0))]) C dL_lines_767 rfl (by decide) (by decide) (by decide) rfl ?_
  refine z_goto (tgt := 730) C dL_lines_770 (by decide) ?_
  refine z_iload_n C dL_lines_730 rfl 0 rfl ?_
  refine z_bipush (v := (6 : Int32)) C dL_lines_731 (by decide) ?_
  refine z_icmp_ge (tgt := 773) C dL_lines_733 (by decide) (fun _ => ?_) (fun c => absurd (by decide) c)
  refine z_aload_n C dL_lines_773 rfl 1 rfl ?_
  refine z_bipush (v := (7 : Int32)) C dL_lines_774 (by decide) ?_
  refine z_bipush (v := (40 : Int32)) C dL_lines_776 (by decide) ?_
  refine z_iconst (v := (0 : Int32)) C dL_lines_778 (by decide) ?_
  obtain ⟨t4, q4, hr⟩ := hr
  have q4 : m_X7_bracket 130 (40 : Int32) (0 : Int32) t3 = some (.inl (5 : Int32), t4) := q4
  refine z_lS C 4 [.ref (ad 0), .int (7 : Int32), .int (40 : Int32), .int (0 : Int32)] [] (zBud_r hB) (cL_act_bracket_v (zC_I C) (zC_st C) q4) (gc gq_L_act) (by decide +kernel) rfl dL_lines_779 rfl ⟨Nat.le_of_ble_eq_true rfl, Nat.le_of_ble_eq_true rfl⟩ rfl (Nat.le_of_ble_eq_true rfl) ?_
  have C := zCT_p C (zBud_r hB); have hQ := hp _ hQ; have hB := zBud_p hB
  refine z_iconst (v := (5 : Int32)) C dL_lines_782 (by decide) ?_
  refine z_icmp_ne (tgt := 808) C dL_lines_783 (by decide) (fun c => absurd (by decide) c) (fun _ => ?_)
  refine z_aload_n C dL_lines_786 rfl 1 rfl ?_
  refine z_bipush (v := (100 : Int32)) C dL_lines_787 (by decide) ?_
  obtain ⟨t5, q5, hr⟩ := hr
  have q5 : m_X7_taxOn 130 (100 : Int32) t4 = some (.inl (40 : Int32), t5) := q5
  refine z_cV (vd := false) (Cn := RX7) (k := 0) C 1 [.int (100 : Int32)] [] (c_X7_taxOn (zC_I C) (zC_st C) q5) (gc gq_taxOn) (by decide +kernel) kX0 vc7 rfl rfl dL_lines_789 rfl ⟨Nat.le_of_ble_eq_true rfl, Nat.le_of_ble_eq_true rfl⟩ rfl (Nat.le_of_ble_eq_true rfl) ?_
  refine z_bipush (v := (40 : Int32)) C dL_lines_792 (by decide) ?_
  refine z_icmp_ne (tgt := 808) C dL_lines_794 (by decide) (fun c => absurd (by decide) c) (fun _ => ?_)
  have hr : t5 = s9 := hr
  subst hr
  exact kk _ C hQ hB
set_option maxRecDepth 100000 in
set_option maxHeartbeats 4000000 in
theorem wL_lines_10 {h : zH} {ad : Nat → Nat} {G : zG} (C : zCT [] h ad zLX 2 G cL_lines RL wq_lines 11 241) {QQ : zG → Prop} (hp : ∀ G, QQ G → QQ (zGp G)) (hq : ∀ G, QQ G → QQ (zGa G 180 1080)) (hQ : QQ G) {f : Nat} (hB : zBud G (f + 180)) {s s9 : zS} (hr : zRun sc_lines_10 s s9) (kk : ∀ G, zCT [] h ad zLX 2 G cL_lines RL wq_lines 11 241 → QQ G → zBud G f → zV h ad zLX 2 G s9 804 [(1, .int (6 : Int32)), (0, .ref (ad 0))] []) : zV h ad zLX 2 G s 797 [(1, .int (6 : Int32)), (0, .ref (ad 0))] [] := by
  refine z_aload_n C dL_lines_797 rfl 1 rfl ?_
  refine z_lK (f := f) (mc := 180) (ms := 1080) C 1 [.ref (ad 0)] [] hB rfl (coL_refuses (zC_I C) (zC_st C) (by decide) (by decide) hr) (gc gq_L_refuses) (by decide +kernel) rfl dL_lines_798 rfl ⟨Nat.le_of_ble_eq_true rfl, Nat.le_of_ble_eq_true rfl⟩ rfl (Nat.le_of_ble_eq_true rfl) ?_
  have C := zCT_a C (zBud_le hB (Nat.le_add_left _ _)) (Nat.le_refl 1080); have hQ := hq _ hQ; have hB := zBud_a hB
  refine z_if_eq (tgt := 808) C dL_lines_801 (by decide) (fun c => absurd c (by decide)) (fun _ => ?_)
  exact kk _ C hQ hB
set_option maxRecDepth 100000 in
set_option maxHeartbeats 4000000 in
theorem wL_lines_11 {h : zH} {ad : Nat → Nat} {G : zG} (C : zCT [] h ad zLX 2 G cL_lines RL wq_lines 11 241) {QQ : zG → Prop} (hp : ∀ G, QQ G → QQ (zGp G)) (hq : ∀ G, QQ G → QQ (zGa G 180 1080)) (hQ : QQ G) {f : Nat} (hB : zBud G (f + 0)) {s s9 : zS} (hr : zRun sc_lines_11 s s9) (kk : ∀ G, zCT [] h ad zLX 2 G cL_lines RL wq_lines 11 241 → QQ G → zBud G f → zV h ad zLX 2 G s9 809 [(1, .int (6 : Int32)), (0, .ref (ad 0))] [.int (1 : Int32)]) : zV h ad zLX 2 G s 804 [(1, .int (6 : Int32)), (0, .ref (ad 0))] [] := by
  refine z_iconst (v := (1 : Int32)) C dL_lines_804 (by decide) ?_
  refine z_goto (tgt := 809) C dL_lines_805 (by decide) ?_
  have hr : s = s9 := hr
  subst hr
  exact kk _ C hQ hB
