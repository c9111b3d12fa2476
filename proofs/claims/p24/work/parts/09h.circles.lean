/-! circles, piece by piece -/
set_option maxRecDepth 100000 in
set_option maxHeartbeats 4000000 in
theorem wL_circles_0 {h : zH} {ad : Nat → Nat} {G : zG} (C : zCT [] h ad zLX 1 G cL_circles RL wq_circles 11 241) {QQ : zG → Prop} (hp : ∀ G, QQ G → QQ (zGp G)) (hq : ∀ G, QQ G → QQ (zGa G 180 1080)) (hQ : QQ G) {f : Nat} (hB : zBud G (f + 4)) {s s9 : zS} (hr : zRun sc_circles_0 s s9) (kk : ∀ G, zCT [] h ad zLX 1 G cL_circles RL wq_circles 11 241 → QQ G → zBud G f → zV h ad zLX 1 G s9 111 [(0, .ref (ad 0))] []) : zV h ad zLX 1 G s 8 [(0, .ref (ad 0))] [] := by
  refine z_aload_n C dL_circles_8 rfl 0 rfl ?_
  refine z_iconst (v := (1 : Int32)) C dL_circles_9 (by decide) ?_
  refine z_iconst (v := (1 : Int32)) C dL_circles_10 (by decide) ?_
  refine z_iconst (v := (1 : Int32)) C dL_circles_11 (by decide) ?_
  refine z_iconst (v := (0 : Int32)) C dL_circles_12 (by decide) ?_
  obtain ⟨t1, q1, hr⟩ := hr
  have q1 : m_X7_define 130 (1 : Int32) (1 : Int32) (1 : Int32) (0 : Int32) s = some (.inr 3, t1) := q1
  refine z_lS C 5 [.ref (ad 0), .int (1 : Int32), .int (1 : Int32), .int (1 : Int32), .int (0 : Int32)] [] (zBud_r hB) (cL_define_x3 (zC_I C) (zC_st C) q1) (gc gq_L_define) (by decide +kernel) rfl dL_circles_13 rfl ⟨Nat.le_of_ble_eq_true rfl, Nat.le_of_ble_eq_true rfl⟩ rfl (Nat.le_of_ble_eq_true rfl) ?_
  have C := zCT_p C (zBud_r hB); have hQ := hp _ hQ; have hB := zBud_p hB
  refine z_bipush (v := (-73 : Int32)) C dL_circles_16 (by decide) ?_
  refine z_icmp_ne (tgt := 269) C dL_circles_18 (by decide) (fun c => absurd (by decide) c) (fun _ => ?_)
  refine z_aload_n C dL_circles_21 rfl 0 rfl ?_
  refine z_iconst (v := (1 : Int32)) C dL_circles_22 (by decide) ?_
  refine z_bipush (v := (8 : Int32)) C dL_circles_23 (by decide) ?_
  refine z_iconst (v := (0 : Int32)) C dL_circles_25 (by decide) ?_
  refine z_iconst (v := (1 : Int32)) C dL_circles_26 (by decide) ?_
  obtain ⟨t2, q2, hr⟩ := hr
  have q2 : m_X7_define 130 (1 : Int32) (8 : Int32) (0 : Int32) (1 : Int32) t1 = some (.inr 3, t2) := q2
  refine z_lS C 5 [.ref (ad 0), .int (1 : Int32), .int (8 : Int32), .int (0 : Int32), .int (1 : Int32)] [] (zBud_r hB) (cL_define_x3 (zC_I C) (zC_st C) q2) (gc gq_L_define) (by decide +kernel) rfl dL_circles_27 rfl ⟨Nat.le_of_ble_eq_true rfl, Nat.le_of_ble_eq_true rfl⟩ rfl (Nat.le_of_ble_eq_true rfl) ?_
  have C := zCT_p C (zBud_r hB); have hQ := hp _ hQ; have hB := zBud_p hB
  refine z_bipush (v := (-73 : Int32)) C dL_circles_30 (by decide) ?_
  refine z_icmp_ne (tgt := 269) C dL_circles_32 (by decide) (fun c => absurd (by decide) c) (fun _ => ?_)
  refine z_aload_n C dL_circles_35 rfl 0 rfl ?_
  refine z_iconst (v := (0 : Int32)) C dL_circles_36 (by decide) ?_
  refine z_sipush (v := (1000 : Int32)) C dL_circles_37 (by decide) ?_
  obtain ⟨t3, q3, hr⟩ := hr
  have q3 : m_X7_answer 130 (0 : Int32) (1000 : Int32) t2 = some (.inl (0 : Int32), t3) := q3
  refine z_cV (vd := false) (Cn := RX7) (k := 0) C 2 [.int (0 : Int32), .int (1000 : Int32)] [] (c_X7_answer (zC_I C) (zC_st C) q3) (gc gq_answer) (by decide +kernel) kX0 vc7 rfl rfl dL_circles_40 rfl ⟨Nat.le_of_ble_eq_true rfl, Nat.le_of_ble_eq_true rfl⟩ rfl (Nat.le_of_ble_eq_true rfl) ?_
  refine z_if_ne (tgt := 269) C dL_circles_43 (by decide) (fun c => absurd (by decide) c) (fun _ => ?_)
  refine z_aload_n C dL_circles_46 rfl 0 rfl ?_
  refine z_iconst (v := (2 : Int32)) C dL_circles_47 (by decide) ?_
  refine z_sipush (v := (600 : Int32)) C dL_circles_48 (by decide) ?_
  obtain ⟨t4, q4, hr⟩ := hr
  have q4 : m_X7_answer 130 (2 : Int32) (600 : Int32) t3 = some (.inl (0 : Int32), t4) := q4
  refine z_cV (vd := false) (Cn := RX7) (k := 0) C 2 [.int (2 : Int32), .int (600 : Int32)] [] (c_X7_answer (zC_I C) (zC_st C) q4) (gc gq_answer) (by decide +kernel) kX0 vc7 rfl rfl dL_circles_51 rfl ⟨Nat.le_of_ble_eq_true rfl, Nat.le_of_ble_eq_true rfl⟩ rfl (Nat.le_of_ble_eq_true rfl) ?_
  refine z_if_ne (tgt := 269) C dL_circles_54 (by decide) (fun c => absurd (by decide) c) (fun _ => ?_)
  refine z_aload_n C dL_circles_57 rfl 0 rfl ?_
  refine z_iconst (v := (1 : Int32)) C dL_circles_58 (by decide) ?_
  refine z_bipush (v := (8 : Int32)) C dL_circles_59 (by decide) ?_
  refine z_iconst (v := (0 : Int32)) C dL_circles_61 (by decide) ?_
  refine z_iconst (v := (3 : Int32)) C dL_circles_62 (by decide) ?_
  obtain ⟨t5, q5, hr⟩ := hr
  have q5 : m_X7_define 130 (1 : Int32) (8 : Int32) (0 : Int32) (3 : Int32) t4 = some (.inl (0 : Int32), t5) := q5
  refine z_lS C 5 [.ref (ad 0), .int (1 : Int32), .int (8 : Int32), .int (0 : Int32), .int (3 : Int32)] [] (zBud_r hB) (cL_define_v (zC_I C) (zC_st C) q5) (gc gq_L_define) (by decide +kernel) rfl dL_circles_63 rfl ⟨Nat.le_of_ble_eq_true rfl, Nat.le_of_ble_eq_true rfl⟩ rfl (Nat.le_of_ble_eq_true rfl) ?_
  have C := zCT_p C (zBud_r hB); have hQ := hp _ hQ; have hB := zBud_p hB
  refine z_if_ne (tgt := 269) C dL_circles_66 (by decide) (fun c => absurd (by decide) c) (fun _ => ?_)
  refine z_aload_n C dL_circles_69 rfl 0 rfl ?_
  refine z_iconst (v := (3 : Int32)) C dL_circles_70 (by decide) ?_
  refine z_iconst (v := (2 : Int32)) C dL_circles_71 (by decide) ?_
  refine z_iconst (v := (2 : Int32)) C dL_circles_72 (by decide) ?_
  refine z_iconst (v := (1 : Int32)) C dL_circles_73 (by decide) ?_
  obtain ⟨t6, q6, hr⟩ := hr
  have q6 : m_X7_define 130 (3 : Int32) (2 : Int32) (2 : Int32) (1 : Int32) t5 = some (.inl (0 : Int32), t6) := q6
  refine z_lS C 5 [.ref (ad 0), .int (3 : Int32), .int (2 : Int32), .int (2 : Int32), .int (1 : Int32)] [] (zBud_r hB) (cL_define_v (zC_I C) (zC_st C) q6) (gc gq_L_define) (by decide +kernel) rfl dL_circles_74 rfl ⟨Nat.le_of_ble_eq_true rfl, Nat.le_of_ble_eq_true rfl⟩ rfl (Nat.le_of_ble_eq_true rfl) ?_
  have C := zCT_p C (zBud_r hB); have hQ := hp _ hQ; have hB := zBud_p hB
  refine z_if_ne (tgt := 269) C dL_circles_77 (by decide) (fun c => absurd (by decide) c) (fun _ => ?_)
  refine z_aload_n C dL_circles_80 rfl 0 rfl ?_
  refine z_iconst (v := (1 : Int32)) C dL_circles_81 (by decide) ?_
  obtain ⟨t7, q7, hr⟩ := hr
  have q7 : m_X7_value 130 (1 : Int32) t6 = some (.inl (300 : Int32), t7) := q7
  refine z_cV (vd := false) (Cn := RX7) (k := 0) C 1 [.int (1 : Int32)] [] (c_X7_value (zC_I C) (zC_st C) q7) (gc gq_value) (by decide +kernel) kX0 vc7 rfl rfl dL_circles_82 rfl ⟨Nat.le_of_ble_eq_true rfl, Nat.le_of_ble_eq_true rfl⟩ rfl (Nat.le_of_ble_eq_true rfl) ?_
  refine z_sipush (v := (300 : Int32)) C dL_circles_85 (by decide) ?_
  refine z_icmp_ne (tgt := 269) C dL_circles_88 (by decide) (fun c => absurd (by decide) c) (fun _ => ?_)
  refine z_aload_n C dL_circles_91 rfl 0 rfl ?_
  refine z_iconst (v := (3 : Int32)) C dL_circles_92 (by decide) ?_
  obtain ⟨t8, q8, hr⟩ := hr
  have q8 : m_X7_value 130 (3 : Int32) t7 = some (.inl (300 : Int32), t8) := q8
  refine z_cV (vd := false) (Cn := RX7) (k := 0) C 1 [.int (3 : Int32)] [] (c_X7_value (zC_I C) (zC_st C) q8) (gc gq_value) (by decide +kernel) kX0 vc7 rfl rfl dL_circles_93 rfl ⟨Nat.le_of_ble_eq_true rfl, Nat.le_of_ble_eq_true rfl⟩ rfl (Nat.le_of_ble_eq_true rfl) ?_
  refine z_sipush (v := (300 : Int32)) C dL_circles_96 (by decide) ?_
  refine z_icmp_ne (tgt := 269) C dL_circles_99 (by decide) (fun c => absurd (by decide) c) (fun _ => ?_)
  refine z_aload_n C dL_circles_102 rfl 0 rfl ?_
  refine z_iconst (v := (1 : Int32)) C dL_circles_103 (by decide) ?_
  refine z_iconst (v := (1 : Int32)) C dL_circles_104 (by decide) ?_
  obtain ⟨t9, q9, hr⟩ := hr
  have q9 : m_X7_dependsOn 130 (1 : Int32) (1 : Int32) t8 = some (.inl (1 : Int32), t9) := q9
  refine z_cV (vd := false) (Cn := RX7) (k := 0) C 2 [.int (1 : Int32), .int (1 : Int32)] [] (c_X7_dependsOn (zC_I C) (zC_st C) q9) (gc gq_dependsOn) (by decide +kernel) kX0 vc7 rfl rfl dL_circles_105 rfl ⟨Nat.le_of_ble_eq_true rfl, Nat.le_of_ble_eq_true rfl⟩ rfl (Nat.le_of_ble_eq_true rfl) ?_
  refine z_if_eq (tgt := 269) C dL_circles_108 (by decide) (fun c => absurd c (by decide)) (fun _ => ?_)
  have hr : t9 = s9 := hr
  subst hr
  exact kk _ C hQ hB
set_option maxRecDepth 100000 in
set_option maxHeartbeats 4000000 in
theorem wL_circles_1 {h : zH} {ad : Nat → Nat} {G : zG} (C : zCT [] h ad zLX 1 G cL_circles RL wq_circles 11 241) {QQ : zG → Prop} (hp : ∀ G, QQ G → QQ (zGp G)) (hq : ∀ G, QQ G → QQ (zGa G 180 1080)) (hQ : QQ G) {f : Nat} (hB : zBud G (f + 0)) {s s9 : zS} (hr : zRun sc_circles_1 s s9) (kk : ∀ G, zCT [] h ad zLX 1 G cL_circles RL wq_circles 11 241 → QQ G → zBud G f → zV h ad zLX 1 G s9 220 [(0, .ref (ad 0))] []) : zV h ad zLX 1 G s 111 [(0, .ref (ad 0))] [] := by
  refine z_aload_n C dL_circles_111 rfl 0 rfl ?_
  refine z_iconst (v := (3 : Int32)) C dL_circles_112 (by decide) ?_
  refine z_iconst (v := (3 : Int32)) C dL_circles_113 (by decide) ?_
  obtain ⟨t1, q1, hr⟩ := hr
  have q1 : m_X7_dependsOn 130 (3 : Int32) (3 : Int32) s = some (.inl (1 : Int32), t1) := q1
  refine z_cV (vd := false) (Cn := RX7) (k := 0) C 2 [.int (3 : Int32), .int (3 : Int32)] [] (c_X7_dependsOn (zC_I C) (zC_st C) q1) (gc gq_dependsOn) (by decide +kernel) kX0 vc7 rfl rfl dL_circles_114 rfl ⟨Nat.le_of_ble_eq_true rfl, Nat.le_of_ble_eq_true rfl⟩ rfl (Nat.le_of_ble_eq_true rfl) ?_
  refine z_if_eq (tgt := 269) C dL_circles_117 (by decide) (fun c => absurd c (by decide)) (fun _ => ?_)
  refine z_aload_n C dL_circles_120 rfl 0 rfl ?_
  refine z_iconst (v := (1 : Int32)) C dL_circles_121 (by decide) ?_
  refine z_iconst (v := (0 : Int32)) C dL_circles_122 (by decide) ?_
  obtain ⟨t2, q2, hr⟩ := hr
  have q2 : m_X7_boundFor 130 (1 : Int32) (0 : Int32) t1 = some (.inl (600 : Int32), t2) := q2
  refine z_cV (vd := false) (Cn := RX7) (k := 0) C 2 [.int (1 : Int32), .int (0 : Int32)] [] (c_X7_boundFor (zC_I C) (zC_st C) q2) (gc gq_boundFor) (by decide +kernel) kX0 vc7 rfl rfl dL_circles_123 rfl ⟨Nat.le_of_ble_eq_true rfl, Nat.le_of_ble_eq_true rfl⟩ rfl (Nat.le_of_ble_eq_true rfl) ?_
  refine z_sipush (v := (600 : Int32)) C dL_circles_126 (by decide) ?_
  refine z_icmp_ne (tgt := 269) C dL_circles_129 (by decide) (fun c => absurd (by decide) c) (fun _ => ?_)
  refine z_aload_n C dL_circles_132 rfl 0 rfl ?_
  refine z_iconst (v := (1 : Int32)) C dL_circles_133 (by decide) ?_
  refine z_sipush (v := (301 : Int32)) C dL_circles_134 (by decide) ?_
  obtain ⟨t3, q3, hr⟩ := hr
  have q3 : m_X7_boundFor 130 (1 : Int32) (301 : Int32) t2 = some (.inl (299 : Int32), t3) := q3
  refine z_cV (vd := false) (Cn := RX7) (k := 0) C 2 [.int (1 : Int32), .int (301 : Int32)] [] (c_X7_boundFor (zC_I C) (zC_st C) q3) (gc gq_boundFor) (by decide +kernel) kX0 vc7 rfl rfl dL_circles_137 rfl ⟨Nat.le_of_ble_eq_true rfl, Nat.le_of_ble_eq_true rfl⟩ rfl (Nat.le_of_ble_eq_true rfl) ?_
  refine z_sipush (v := (299 : Int32)) C dL_circles_140 (by decide) ?_
  refine z_icmp_ne (tgt := 269) C dL_circles_143 (by decide) (fun c => absurd (by decide) c) (fun _ => ?_)
  refine z_aload_n C dL_circles_146 rfl 0 rfl ?_
  refine z_iconst (v := (1 : Int32)) C dL_circles_147 (by decide) ?_
  refine z_ldc (v := (1000000000 : Int32)) C ewq_circles_c90 dL_circles_148 ?_
  obtain ⟨t4, q4, hr⟩ := hr
  have q4 : m_X7_boundFor 130 (1 : Int32) (1000000000 : Int32) t3 = some (.inl (0 : Int32), t4) := q4
  refine z_cV (vd := false) (Cn := RX7) (k := 0) C 2 [.int (1 : Int32), .int (1000000000 : Int32)] [] (c_X7_boundFor (zC_I C) (zC_st C) q4) (gc gq_boundFor) (by decide +kernel) kX0 vc7 rfl rfl dL_circles_150 rfl ⟨Nat.le_of_ble_eq_true rfl, Nat.le_of_ble_eq_true rfl⟩ rfl (Nat.le_of_ble_eq_true rfl) ?_
  refine z_if_ne (tgt := 269) C dL_circles_153 (by decide) (fun c => absurd (by decide) c) (fun _ => ?_)
  refine z_aload_n C dL_circles_156 rfl 0 rfl ?_
  refine z_iconst (v := (2 : Int32)) C dL_circles_157 (by decide) ?_
  refine z_sipush (v := (601 : Int32)) C dL_circles_158 (by decide) ?_
  obtain ⟨t5, q5, hr⟩ := hr
  have q5 : m_X7_answer 130 (2 : Int32) (601 : Int32) t4 = some (.inl (600 : Int32), t5) := q5
  refine z_cV (vd := false) (Cn := RX7) (k := 0) C 2 [.int (2 : Int32), .int (601 : Int32)] [] (c_X7_answer (zC_I C) (zC_st C) q5) (gc gq_answer) (by decide +kernel) kX0 vc7 rfl rfl dL_circles_161 rfl ⟨Nat.le_of_ble_eq_true rfl, Nat.le_of_ble_eq_true rfl⟩ rfl (Nat.le_of_ble_eq_true rfl) ?_
  refine z_sipush (v := (600 : Int32)) C dL_circles_164 (by decide) ?_
  refine z_icmp_ne (tgt := 269) C dL_circles_167 (by decide) (fun c => absurd (by decide) c) (fun _ => ?_)
  refine z_aload_n C dL_circles_170 rfl 0 rfl ?_
  refine z_iconst (v := (1 : Int32)) C dL_circles_171 (by decide) ?_
  obtain ⟨t6, q6, hr⟩ := hr
  have q6 : m_X7_value 130 (1 : Int32) t5 = some (.inl (300 : Int32), t6) := q6
  refine z_cV (vd := false) (Cn := RX7) (k := 0) C 1 [.int (1 : Int32)] [] (c_X7_value (zC_I C) (zC_st C) q6) (gc gq_value) (by decide +kernel) kX0 vc7 rfl rfl dL_circles_172 rfl ⟨Nat.le_of_ble_eq_true rfl, Nat.le_of_ble_eq_true rfl⟩ rfl (Nat.le_of_ble_eq_true rfl) ?_
  refine z_sipush (v := (300 : Int32)) C dL_circles_175 (by decide) ?_
  refine z_icmp_ne (tgt := 269) C dL_circles_178 (by decide) (fun c => absurd (by decide) c) (fun _ => ?_)
  refine z_aload_n C dL_circles_181 rfl 0 rfl ?_
  refine z_iconst (v := (3 : Int32)) C dL_circles_182 (by decide) ?_
  obtain ⟨t7, q7, hr⟩ := hr
  have q7 : m_X7_value 130 (3 : Int32) t6 = some (.inl (301 : Int32), t7) := q7
  refine z_cV (vd := false) (Cn := RX7) (k := 0) C 1 [.int (3 : Int32)] [] (c_X7_value (zC_I C) (zC_st C) q7) (gc gq_value) (by decide +kernel) kX0 vc7 rfl rfl dL_circles_183 rfl ⟨Nat.le_of_ble_eq_true rfl, Nat.le_of_ble_eq_true rfl⟩ rfl (Nat.le_of_ble_eq_true rfl) ?_
  refine z_sipush (v := (301 : Int32)) C dL_circles_186 (by decide) ?_
  refine z_icmp_ne (tgt := 269) C dL_circles_189 (by decide) (fun c => absurd (by decide) c) (fun _ => ?_)
  refine z_aload_n C dL_circles_192 rfl 0 rfl ?_
  refine z_iconst (v := (2 : Int32)) C dL_circles_193 (by decide) ?_
  refine z_sipush (v := (700 : Int32)) C dL_circles_194 (by decide) ?_
  obtain ⟨t8, q8, hr⟩ := hr
  have q8 : m_X7_answer 130 (2 : Int32) (700 : Int32) t7 = some (.inl (601 : Int32), t8) := q8
  refine z_cV (vd := false) (Cn := RX7) (k := 0) C 2 [.int (2 : Int32), .int (700 : Int32)] [] (c_X7_answer (zC_I C) (zC_st C) q8) (gc gq_answer) (by decide +kernel) kX0 vc7 rfl rfl dL_circles_197 rfl ⟨Nat.le_of_ble_eq_true rfl, Nat.le_of_ble_eq_true rfl⟩ rfl (Nat.le_of_ble_eq_true rfl) ?_
  refine z_sipush (v := (601 : Int32)) C dL_circles_200 (by decide) ?_
  refine z_icmp_ne (tgt := 269) C dL_circles_203 (by decide) (fun c => absurd (by decide) c) (fun _ => ?_)
  refine z_aload_n C dL_circles_206 rfl 0 rfl ?_
  refine z_iconst (v := (0 : Int32)) C dL_circles_207 (by decide) ?_
  refine z_sipush (v := (200 : Int32)) C dL_circles_208 (by decide) ?_
  obtain ⟨t9, q9, hr⟩ := hr
  have q9 : m_X7_answer 130 (0 : Int32) (200 : Int32) t8 = some (.inl (1000 : Int32), t9) := q9
  refine z_cV (vd := false) (Cn := RX7) (k := 0) C 2 [.int (0 : Int32), .int (200 : Int32)] [] (c_X7_answer (zC_I C) (zC_st C) q9) (gc gq_answer) (by decide +kernel) kX0 vc7 rfl rfl dL_circles_211 rfl ⟨Nat.le_of_ble_eq_true rfl, Nat.le_of_ble_eq_true rfl⟩ rfl (Nat.le_of_ble_eq_true rfl) ?_
  refine z_sipush (v := (1000 : Int32)) C dL_circles_214 (by decide) ?_
  refine z_icmp_ne (tgt := 269) C dL_circles_217 (by decide) (fun c => absurd (by decide) c) (fun _ => ?_)
  have hr : t9 = s9 := hr
  subst hr
  exact kk _ C hQ hB
set_option maxRecDepth 100000 in
set_option maxHeartbeats 4000000 in
theorem wL_circles_2 {h : zH} {ad : Nat → Nat} {G : zG} (C : zCT [] h ad zLX 1 G cL_circles RL wq_circles 11 241) {QQ : zG → Prop} (hp : ∀ G, QQ G → QQ (zGp G)) (hq : ∀ G, QQ G → QQ (zGa G 180 1080)) (hQ : QQ G) {f : Nat} (hB : zBud G (f + 3)) {s s9 : zS} (hr : zRun sc_circles_2 s s9) (kk : ∀ G, zCT [] h ad zLX 1 G cL_circles RL wq_circles 11 241 → QQ G → zBud G f → zV h ad zLX 1 G s9 319 [(0, .ref (ad 0))] []) : zV h ad zLX 1 G s 220 [(0, .ref (ad 0))] [] := by
  refine z_aload_n C dL_circles_220 rfl 0 rfl ?_
  refine z_iconst (v := (1 : Int32)) C dL_circles_221 (by decide) ?_
  obtain ⟨t1, q1, hr⟩ := hr
  have q1 : m_X7_value 130 (1 : Int32) s = some (.inl (200 : Int32), t1) := q1
  refine z_cV (vd := false) (Cn := RX7) (k := 0) C 1 [.int (1 : Int32)] [] (c_X7_value (zC_I C) (zC_st C) q1) (gc gq_value) (by decide +kernel) kX0 vc7 rfl rfl dL_circles_222 rfl ⟨Nat.le_of_ble_eq_true rfl, Nat.le_of_ble_eq_true rfl⟩ rfl (Nat.le_of_ble_eq_true rfl) ?_
  refine z_sipush (v := (200 : Int32)) C dL_circles_225 (by decide) ?_
  refine z_icmp_ne (tgt := 269) C dL_circles_228 (by decide) (fun c => absurd (by decide) c) (fun _ => ?_)
  refine z_aload_n C dL_circles_231 rfl 0 rfl ?_
  refine z_iconst (v := (3 : Int32)) C dL_circles_232 (by decide) ?_
  obtain ⟨t2, q2, hr⟩ := hr
  have q2 : m_X7_value 130 (3 : Int32) t1 = some (.inl (500 : Int32), t2) := q2
  refine z_cV (vd := false) (Cn := RX7) (k := 0) C 1 [.int (3 : Int32)] [] (c_X7_value (zC_I C) (zC_st C) q2) (gc gq_value) (by decide +kernel) kX0 vc7 rfl rfl dL_circles_233 rfl ⟨Nat.le_of_ble_eq_true rfl, Nat.le_of_ble_eq_true rfl⟩ rfl (Nat.le_of_ble_eq_true rfl) ?_
  refine z_sipush (v := (500 : Int32)) C dL_circles_236 (by decide) ?_
  refine z_icmp_ne (tgt := 269) C dL_circles_239 (by decide) (fun c => absurd (by decide) c) (fun _ => ?_)
  refine z_aload_n C dL_circles_242 rfl 0 rfl ?_
  refine z_iconst (v := (1 : Int32)) C dL_circles_243 (by decide) ?_
  refine z_iconst (v := (1 : Int32)) C dL_circles_244 (by decide) ?_
  obtain ⟨t3, q3, hr⟩ := hr
  have q3 : m_X7_why 130 (1 : Int32) (1 : Int32) t2 = some (.inl (0 : Int32), t3) := q3
  refine z_cV (vd := false) (Cn := RX7) (k := 0) C 2 [.int (1 : Int32), .int (1 : Int32)] [] (c_X7_why (zC_I C) (zC_st C) q3) (gc gq_why) (by decide +kernel) kX0 vc7 rfl rfl dL_circles_245 rfl ⟨Nat.le_of_ble_eq_true rfl, Nat.le_of_ble_eq_true rfl⟩ rfl (Nat.le_of_ble_eq_true rfl) ?_
  refine z_if_ne (tgt := 269) C dL_circles_248 (by decide) (fun c => absurd (by decide) c) (fun _ => ?_)
  refine z_aload_n C dL_circles_251 rfl 0 rfl ?_
  refine z_iconst (v := (2 : Int32)) C dL_circles_252 (by decide) ?_
  obtain ⟨t4, q4, hr⟩ := hr
  have q4 : m_X7_influence 130 (2 : Int32) t3 = some (.inl (2 : Int32), t4) := q4
  refine z_cV (vd := false) (Cn := RX7) (k := 0) C 1 [.int (2 : Int32)] [] (c_X7_influence (zC_I C) (zC_st C) q4) (gc gq_influence) (by decide +kernel) kX0 vc7 rfl rfl dL_circles_253 rfl ⟨Nat.le_of_ble_eq_true rfl, Nat.le_of_ble_eq_true rfl⟩ rfl (Nat.le_of_ble_eq_true rfl) ?_
  refine z_iconst (v := (2 : Int32)) C dL_circles_256 (by decide) ?_
  refine z_icmp_ne (tgt := 269) C dL_circles_257 (by decide) (fun c => absurd (by decide) c) (fun _ => ?_)
  refine z_aload_n C dL_circles_260 rfl 0 rfl ?_
  refine z_iconst (v := (0 : Int32)) C dL_circles_261 (by decide) ?_
  obtain ⟨t5, q5, hr⟩ := hr
  have q5 : m_X7_influence 130 (0 : Int32) t4 = some (.inl (3 : Int32), t5) := q5
  refine z_cV (vd := false) (Cn := RX7) (k := 0) C 1 [.int (0 : Int32)] [] (c_X7_influence (zC_I C) (zC_st C) q5) (gc gq_influence) (by decide +kernel) kX0 vc7 rfl rfl dL_circles_262 rfl ⟨Nat.le_of_ble_eq_true rfl, Nat.le_of_ble_eq_true rfl⟩ rfl (Nat.le_of_ble_eq_true rfl) ?_
  refine z_iconst (v := (3 : Int32)) C dL_circles_265 (by decide) ?_
  refine z_icmp_eq (tgt := 271) C dL_circles_266 (by decide) (fun _ => ?_) (fun c => absurd (by decide) c)
  refine z_aload_n C dL_circles_271 rfl 0 rfl ?_
  refine z_iconst (v := (3 : Int32)) C dL_circles_272 (by decide) ?_
  refine z_iconst (v := (1 : Int32)) C dL_circles_273 (by decide) ?_
  refine z_iconst (v := (2 : Int32)) C dL_circles_274 (by decide) ?_
  refine z_iconst (v := (1 : Int32)) C dL_circles_275 (by decide) ?_
  obtain ⟨t6, q6, hr⟩ := hr
  have q6 : m_X7_define 130 (3 : Int32) (1 : Int32) (2 : Int32) (1 : Int32) t5 = some (.inr 3, t6) := q6
  refine z_lS C 5 [.ref (ad 0), .int (3 : Int32), .int (1 : Int32), .int (2 : Int32), .int (1 : Int32)] [] (zBud_r hB) (cL_define_x3 (zC_I C) (zC_st C) q6) (gc gq_L_define) (by decide +kernel) rfl dL_circles_276 rfl ⟨Nat.le_of_ble_eq_true rfl, Nat.le_of_ble_eq_true rfl⟩ rfl (Nat.le_of_ble_eq_true rfl) ?_
  have C := zCT_p C (zBud_r hB); have hQ := hp _ hQ; have hB := zBud_p hB
  refine z_bipush (v := (-73 : Int32)) C dL_circles_279 (by decide) ?_
  refine z_icmp_ne (tgt := 500) C dL_circles_281 (by decide) (fun c => absurd (by decide) c) (fun _ => ?_)
  refine z_aload_n C dL_circles_284 rfl 0 rfl ?_
  refine z_iconst (v := (3 : Int32)) C dL_circles_285 (by decide) ?_
  obtain ⟨t7, q7, hr⟩ := hr
  have q7 : m_X7_kindOf 130 (3 : Int32) t6 = some (.inl (2 : Int32), t7) := q7
  refine z_cV (vd := false) (Cn := RX7) (k := 0) C 1 [.int (3 : Int32)] [] (c_X7_kindOf (zC_I C) (zC_st C) q7) (gc gq_kindOf) (by decide +kernel) kX0 vc7 rfl rfl dL_circles_286 rfl ⟨Nat.le_of_ble_eq_true rfl, Nat.le_of_ble_eq_true rfl⟩ rfl (Nat.le_of_ble_eq_true rfl) ?_
  refine z_iconst (v := (2 : Int32)) C dL_circles_289 (by decide) ?_
  refine z_icmp_ne (tgt := 500) C dL_circles_290 (by decide) (fun c => absurd (by decide) c) (fun _ => ?_)
  refine z_aload_n C dL_circles_293 rfl 0 rfl ?_
  refine z_iconst (v := (3 : Int32)) C dL_circles_294 (by decide) ?_
  refine z_iconst (v := (2 : Int32)) C dL_circles_295 (by decide) ?_
  refine z_iconst (v := (1 : Int32)) C dL_circles_296 (by decide) ?_
  refine z_iconst (v := (2 : Int32)) C dL_circles_297 (by decide) ?_
  obtain ⟨t8, q8, hr⟩ := hr
  have q8 : m_X7_define 130 (3 : Int32) (2 : Int32) (1 : Int32) (2 : Int32) t7 = some (.inr 3, t8) := q8
  refine z_lS C 5 [.ref (ad 0), .int (3 : Int32), .int (2 : Int32), .int (1 : Int32), .int (2 : Int32)] [] (zBud_r hB) (cL_define_x3 (zC_I C) (zC_st C) q8) (gc gq_L_define) (by decide +kernel) rfl dL_circles_298 rfl ⟨Nat.le_of_ble_eq_true rfl, Nat.le_of_ble_eq_true rfl⟩ rfl (Nat.le_of_ble_eq_true rfl) ?_
  have C := zCT_p C (zBud_r hB); have hQ := hp _ hQ; have hB := zBud_p hB
  refine z_bipush (v := (-73 : Int32)) C dL_circles_301 (by decide) ?_
  refine z_icmp_ne (tgt := 500) C dL_circles_303 (by decide) (fun c => absurd (by decide) c) (fun _ => ?_)
  refine z_aload_n C dL_circles_306 rfl 0 rfl ?_
  refine z_iconst (v := (3 : Int32)) C dL_circles_307 (by decide) ?_
  refine z_iconst (v := (2 : Int32)) C dL_circles_308 (by decide) ?_
  refine z_iconst (v := (1 : Int32)) C dL_circles_309 (by decide) ?_
  refine z_iconst (v := (1 : Int32)) C dL_circles_310 (by decide) ?_
  obtain ⟨t9, q9, hr⟩ := hr
  have q9 : m_X7_define 130 (3 : Int32) (2 : Int32) (1 : Int32) (1 : Int32) t8 = some (.inr 3, t9) := q9
  refine z_lS C 5 [.ref (ad 0), .int (3 : Int32), .int (2 : Int32), .int (1 : Int32), .int (1 : Int32)] [] (zBud_r hB) (cL_define_x3 (zC_I C) (zC_st C) q9) (gc gq_L_define) (by decide +kernel) rfl dL_circles_311 rfl ⟨Nat.le_of_ble_eq_true rfl, Nat.le_of_ble_eq_true rfl⟩ rfl (Nat.le_of_ble_eq_true rfl) ?_
  have C := zCT_p C (zBud_r hB); have hQ := hp _ hQ; have hB := zBud_p hB
  refine z_bipush (v := (-73 : Int32)) C dL_circles_314 (by decide) ?_
  refine z_icmp_ne (tgt := 500) C dL_circles_316 (by decide) (fun c => absurd (by decide) c) (fun _ => ?_)
  have hr : t9 = s9 := hr
  subst hr
  exact kk _ C hQ hB
set_option maxRecDepth 100000 in
set_option maxHeartbeats 4000000 in
theorem wL_circles_3 {h : zH} {ad : Nat → Nat} {G : zG} (C : zCT [] h ad zLX 1 G cL_circles RL wq_circles 11 241) {QQ : zG → Prop} (hp : ∀ G, QQ G → QQ (zGp G)) (hq : ∀ G, QQ G → QQ (zGa G 180 1080)) (hQ : QQ G) {f : Nat} (hB : zBud G (f + 6)) {s s9 : zS} (hr : zRun sc_circles_3 s s9) (kk : ∀ G, zCT [] h ad zLX 1 G cL_circles RL wq_circles 11 241 → QQ G → zBud G f → zV h ad zLX 1 G s9 430 [(0, .ref (ad 0))] []) : zV h ad zLX 1 G s 319 [(0, .ref (ad 0))] [] := by
  refine z_aload_n C dL_circles_319 rfl 0 rfl ?_
  refine z_iconst (v := (3 : Int32)) C dL_circles_320 (by decide) ?_
  refine z_bipush (v := (8 : Int32)) C dL_circles_321 (by decide) ?_
  refine z_iconst (v := (2 : Int32)) C dL_circles_323 (by decide) ?_
  refine z_iconst (v := (1 : Int32)) C dL_circles_324 (by decide) ?_
  obtain ⟨t1, q1, hr⟩ := hr
  have q1 : m_X7_define 130 (3 : Int32) (8 : Int32) (2 : Int32) (1 : Int32) s = some (.inr 3, t1) := q1
  refine z_lS C 5 [.ref (ad 0), .int (3 : Int32), .int (8 : Int32), .int (2 : Int32), .int (1 : Int32)] [] (zBud_r hB) (cL_define_x3 (zC_I C) (zC_st C) q1) (gc gq_L_define) (by decide +kernel) rfl dL_circles_325 rfl ⟨Nat.le_of_ble_eq_true rfl, Nat.le_of_ble_eq_true rfl⟩ rfl (Nat.le_of_ble_eq_true rfl) ?_
  have C := zCT_p C (zBud_r hB); have hQ := hp _ hQ; have hB := zBud_p hB
  refine z_bipush (v := (-73 : Int32)) C dL_circles_328 (by decide) ?_
  refine z_icmp_ne (tgt := 500) C dL_circles_330 (by decide) (fun c => absurd (by decide) c) (fun _ => ?_)
  refine z_aload_n C dL_circles_333 rfl 0 rfl ?_
  refine z_iconst (v := (1 : Int32)) C dL_circles_334 (by decide) ?_
  refine z_bipush (v := (8 : Int32)) C dL_circles_335 (by decide) ?_
  refine z_iconst (v := (3 : Int32)) C dL_circles_337 (by decide) ?_
  refine z_iconst (v := (3 : Int32)) C dL_circles_338 (by decide) ?_
  obtain ⟨t2, q2, hr⟩ := hr
  have q2 : m_X7_define 130 (1 : Int32) (8 : Int32) (3 : Int32) (3 : Int32) t1 = some (.inr 3, t2) := q2
  refine z_lS C 5 [.ref (ad 0), .int (1 : Int32), .int (8 : Int32), .int (3 : Int32), .int (3 : Int32)] [] (zBud_r hB) (cL_define_x3 (zC_I C) (zC_st C) q2) (gc gq_L_define) (by decide +kernel) rfl dL_circles_339 rfl ⟨Nat.le_of_ble_eq_true rfl, Nat.le_of_ble_eq_true rfl⟩ rfl (Nat.le_of_ble_eq_true rfl) ?_
  have C := zCT_p C (zBud_r hB); have hQ := hp _ hQ; have hB := zBud_p hB
  refine z_bipush (v := (-73 : Int32)) C dL_circles_342 (by decide) ?_
  refine z_icmp_ne (tgt := 500) C dL_circles_344 (by decide) (fun c => absurd (by decide) c) (fun _ => ?_)
  refine z_aload_n C dL_circles_347 rfl 0 rfl ?_
  refine z_iconst (v := (1 : Int32)) C dL_circles_348 (by decide) ?_
  refine z_iconst (v := (1 : Int32)) C dL_circles_349 (by decide) ?_
  refine z_iconst (v := (0 : Int32)) C dL_circles_350 (by decide) ?_
  refine z_iconst (v := (3 : Int32)) C dL_circles_351 (by decide) ?_
  obtain ⟨t3, q3, hr⟩ := hr
  have q3 : m_X7_define 130 (1 : Int32) (1 : Int32) (0 : Int32) (3 : Int32) t2 = some (.inr 3, t3) := q3
  refine z_lS C 5 [.ref (ad 0), .int (1 : Int32), .int (1 : Int32), .int (0 : Int32), .int (3 : Int32)] [] (zBud_r hB) (cL_define_x3 (zC_I C) (zC_st C) q3) (gc gq_L_define) (by decide +kernel) rfl dL_circles_352 rfl ⟨Nat.le_of_ble_eq_true rfl, Nat.le_of_ble_eq_true rfl⟩ rfl (Nat.le_of_ble_eq_true rfl) ?_
  have C := zCT_p C (zBud_r hB); have hQ := hp _ hQ; have hB := zBud_p hB
  refine z_bipush (v := (-73 : Int32)) C dL_circles_355 (by decide) ?_
  refine z_icmp_ne (tgt := 500) C dL_circles_357 (by decide) (fun c => absurd (by decide) c) (fun _ => ?_)
  refine z_aload_n C dL_circles_360 rfl 0 rfl ?_
  refine z_iconst (v := (4 : Int32)) C dL_circles_361 (by decide) ?_
  refine z_iconst (v := (3 : Int32)) C dL_circles_362 (by decide) ?_
  refine z_iconst (v := (1 : Int32)) C dL_circles_363 (by decide) ?_
  refine z_sipush (v := (500 : Int32)) C dL_circles_364 (by decide) ?_
  obtain ⟨t4, q4, hr⟩ := hr
  have q4 : m_X7_define 130 (4 : Int32) (3 : Int32) (1 : Int32) (500 : Int32) t3 = some (.inl (0 : Int32), t4) := q4
  refine z_lS C 5 [.ref (ad 0), .int (4 : Int32), .int (3 : Int32), .int (1 : Int32), .int (500 : Int32)] [] (zBud_r hB) (cL_define_v (zC_I C) (zC_st C) q4) (gc gq_L_define) (by decide +kernel) rfl dL_circles_367 rfl ⟨Nat.le_of_ble_eq_true rfl, Nat.le_of_ble_eq_true rfl⟩ rfl (Nat.le_of_ble_eq_true rfl) ?_
  have C := zCT_p C (zBud_r hB); have hQ := hp _ hQ; have hB := zBud_p hB
  refine z_if_ne (tgt := 500) C dL_circles_370 (by decide) (fun c => absurd (by decide) c) (fun _ => ?_)
  refine z_aload_n C dL_circles_373 rfl 0 rfl ?_
  refine z_iconst (v := (5 : Int32)) C dL_circles_374 (by decide) ?_
  refine z_iconst (v := (1 : Int32)) C dL_circles_375 (by decide) ?_
  refine z_iconst (v := (4 : Int32)) C dL_circles_376 (by decide) ?_
  refine z_iconst (v := (1 : Int32)) C dL_circles_377 (by decide) ?_
  obtain ⟨t5, q5, hr⟩ := hr
  have q5 : m_X7_define 130 (5 : Int32) (1 : Int32) (4 : Int32) (1 : Int32) t4 = some (.inl (0 : Int32), t5) := q5
  refine z_lS C 5 [.ref (ad 0), .int (5 : Int32), .int (1 : Int32), .int (4 : Int32), .int (1 : Int32)] [] (zBud_r hB) (cL_define_v (zC_I C) (zC_st C) q5) (gc gq_L_define) (by decide +kernel) rfl dL_circles_378 rfl ⟨Nat.le_of_ble_eq_true rfl, Nat.le_of_ble_eq_true rfl⟩ rfl (Nat.le_of_ble_eq_true rfl) ?_
  have C := zCT_p C (zBud_r hB); have hQ := hp _ hQ; have hB := zBud_p hB
  refine z_if_ne (tgt := 500) C dL_circles_381 (by decide) (fun c => absurd (by decide) c) (fun _ => ?_)
  refine z_aload_n C dL_circles_384 rfl 0 rfl ?_
  refine z_iconst (v := (3 : Int32)) C dL_circles_385 (by decide) ?_
  refine z_iconst (v := (2 : Int32)) C dL_circles_386 (by decide) ?_
  refine z_iconst (v := (2 : Int32)) C dL_circles_387 (by decide) ?_
  refine z_iconst (v := (5 : Int32)) C dL_circles_388 (by decide) ?_
  obtain ⟨t6, q6, hr⟩ := hr
  have q6 : m_X7_define 130 (3 : Int32) (2 : Int32) (2 : Int32) (5 : Int32) t5 = some (.inl (0 : Int32), t6) := q6
  refine z_lS C 5 [.ref (ad 0), .int (3 : Int32), .int (2 : Int32), .int (2 : Int32), .int (5 : Int32)] [] (zBud_r hB) (cL_define_v (zC_I C) (zC_st C) q6) (gc gq_L_define) (by decide +kernel) rfl dL_circles_389 rfl ⟨Nat.le_of_ble_eq_true rfl, Nat.le_of_ble_eq_true rfl⟩ rfl (Nat.le_of_ble_eq_true rfl) ?_
  have C := zCT_p C (zBud_r hB); have hQ := hp _ hQ; have hB := zBud_p hB
  refine z_if_ne (tgt := 500) C dL_circles_392 (by decide) (fun c => absurd (by decide) c) (fun _ => ?_)
  refine z_aload_n C dL_circles_395 rfl 0 rfl ?_
  refine z_iconst (v := (0 : Int32)) C dL_circles_396 (by decide) ?_
  refine z_ldc (v := (100000 : Int32)) C ewq_circles_c99 dL_circles_397 ?_
  obtain ⟨t7, q7, hr⟩ := hr
  have q7 : m_X7_answer 130 (0 : Int32) (100000 : Int32) t6 = some (.inl (200 : Int32), t7) := q7
  refine z_cV (vd := false) (Cn := RX7) (k := 0) C 2 [.int (0 : Int32), .int (100000 : Int32)] [] (c_X7_answer (zC_I C) (zC_st C) q7) (gc gq_answer) (by decide +kernel) kX0 vc7 rfl rfl dL_circles_399 rfl ⟨Nat.le_of_ble_eq_true rfl, Nat.le_of_ble_eq_true rfl⟩ rfl (Nat.le_of_ble_eq_true rfl) ?_
  refine z_sipush (v := (200 : Int32)) C dL_circles_402 (by decide) ?_
  refine z_icmp_ne (tgt := 500) C dL_circles_405 (by decide) (fun c => absurd (by decide) c) (fun _ => ?_)
  refine z_aload_n C dL_circles_408 rfl 0 rfl ?_
  refine z_iconst (v := (1 : Int32)) C dL_circles_409 (by decide) ?_
  obtain ⟨t8, q8, hr⟩ := hr
  have q8 : m_X7_value 130 (1 : Int32) t7 = some (.inl (280 : Int32), t8) := q8
  refine z_cV (vd := false) (Cn := RX7) (k := 0) C 1 [.int (1 : Int32)] [] (c_X7_value (zC_I C) (zC_st C) q8) (gc gq_value) (by decide +kernel) kX0 vc7 rfl rfl dL_circles_410 rfl ⟨Nat.le_of_ble_eq_true rfl, Nat.le_of_ble_eq_true rfl⟩ rfl (Nat.le_of_ble_eq_true rfl) ?_
  refine z_sipush (v := (280 : Int32)) C dL_circles_413 (by decide) ?_
  refine z_icmp_ne (tgt := 500) C dL_circles_416 (by decide) (fun c => absurd (by decide) c) (fun _ => ?_)
  refine z_aload_n C dL_circles_419 rfl 0 rfl ?_
  refine z_iconst (v := (4 : Int32)) C dL_circles_420 (by decide) ?_
  obtain ⟨t9, q9, hr⟩ := hr
  have q9 : m_X7_value 130 (4 : Int32) t8 = some (.inl (140 : Int32), t9) := q9
  refine z_cV (vd := false) (Cn := RX7) (k := 0) C 1 [.int (4 : Int32)] [] (c_X7_value (zC_I C) (zC_st C) q9) (gc gq_value) (by decide +kernel) kX0 vc7 rfl rfl dL_circles_421 rfl ⟨Nat.le_of_ble_eq_true rfl, Nat.le_of_ble_eq_true rfl⟩ rfl (Nat.le_of_ble_eq_true rfl) ?_
  refine z_sipush (v := (140 : Int32)) C dL_circles_424 (by decide) ?_
  refine z_icmp_ne (tgt := 500) C dL_circles_427 (by decide) (fun c => absurd (by decide) c) (fun _ => ?_)
  have hr : t9 = s9 := hr
  subst hr
  exact kk _ C hQ hB
set_option maxRecDepth 100000 in
set_option maxHeartbeats 4000000 in
theorem wL_circles_4 {h : zH} {ad : Nat → Nat} {G : zG} (C : zCT [] h ad zLX 1 G cL_circles RL wq_circles 11 241) {QQ : zG → Prop} (hp : ∀ G, QQ G → QQ (zGp G)) (hq : ∀ G, QQ G → QQ (zGa G 180 1080)) (hQ : QQ G) {f : Nat} (hB : zBud G (f + 3)) {s s9 : zS} (hr : zRun sc_circles_4 s s9) (kk : ∀ G, zCT [] h ad zLX 1 G cL_circles RL wq_circles 11 241 → QQ G → zBud G f → zV h ad zLX 1 G s9 493 [(0, .ref (ad 0))] []) : zV h ad zLX 1 G s 430 [(0, .ref (ad 0))] [] := by
  refine z_aload_n C dL_circles_430 rfl 0 rfl ?_
  refine z_iconst (v := (5 : Int32)) C dL_circles_431 (by decide) ?_
  obtain ⟨t1, q1, hr⟩ := hr
  have q1 : m_X7_value 130 (5 : Int32) s = some (.inl (420 : Int32), t1) := q1
  refine z_cV (vd := false) (Cn := RX7) (k := 0) C 1 [.int (5 : Int32)] [] (c_X7_value (zC_I C) (zC_st C) q1) (gc gq_value) (by decide +kernel) kX0 vc7 rfl rfl dL_circles_432 rfl ⟨Nat.le_of_ble_eq_true rfl, Nat.le_of_ble_eq_true rfl⟩ rfl (Nat.le_of_ble_eq_true rfl) ?_
  refine z_sipush (v := (420 : Int32)) C dL_circles_435 (by decide) ?_
  refine z_icmp_ne (tgt := 500) C dL_circles_438 (by decide) (fun c => absurd (by decide) c) (fun _ => ?_)
  refine z_aload_n C dL_circles_441 rfl 0 rfl ?_
  refine z_iconst (v := (3 : Int32)) C dL_circles_442 (by decide) ?_
  obtain ⟨t2, q2, hr⟩ := hr
  have q2 : m_X7_value 130 (3 : Int32) t1 = some (.inl (280 : Int32), t2) := q2
  refine z_cV (vd := false) (Cn := RX7) (k := 0) C 1 [.int (3 : Int32)] [] (c_X7_value (zC_I C) (zC_st C) q2) (gc gq_value) (by decide +kernel) kX0 vc7 rfl rfl dL_circles_443 rfl ⟨Nat.le_of_ble_eq_true rfl, Nat.le_of_ble_eq_true rfl⟩ rfl (Nat.le_of_ble_eq_true rfl) ?_
  refine z_sipush (v := (280 : Int32)) C dL_circles_446 (by decide) ?_
  refine z_icmp_ne (tgt := 500) C dL_circles_449 (by decide) (fun c => absurd (by decide) c) (fun _ => ?_)
  refine z_aload_n C dL_circles_452 rfl 0 rfl ?_
  refine z_bipush (v := (6 : Int32)) C dL_circles_453 (by decide) ?_
  refine z_iconst (v := (2 : Int32)) C dL_circles_455 (by decide) ?_
  refine z_iconst (v := (2 : Int32)) C dL_circles_456 (by decide) ?_
  refine z_iconst (v := (4 : Int32)) C dL_circles_457 (by decide) ?_
  obtain ⟨t3, q3, hr⟩ := hr
  have q3 : m_X7_define 130 (6 : Int32) (2 : Int32) (2 : Int32) (4 : Int32) t2 = some (.inl (0 : Int32), t3) := q3
  refine z_lS C 5 [.ref (ad 0), .int (6 : Int32), .int (2 : Int32), .int (2 : Int32), .int (4 : Int32)] [] (zBud_r hB) (cL_define_v (zC_I C) (zC_st C) q3) (gc gq_L_define) (by decide +kernel) rfl dL_circles_458 rfl ⟨Nat.le_of_ble_eq_true rfl, Nat.le_of_ble_eq_true rfl⟩ rfl (Nat.le_of_ble_eq_true rfl) ?_
  have C := zCT_p C (zBud_r hB); have hQ := hp _ hQ; have hB := zBud_p hB
  refine z_if_ne (tgt := 500) C dL_circles_461 (by decide) (fun c => absurd (by decide) c) (fun _ => ?_)
  refine z_aload_n C dL_circles_464 rfl 0 rfl ?_
  refine z_iconst (v := (5 : Int32)) C dL_circles_465 (by decide) ?_
  refine z_iconst (v := (1 : Int32)) C dL_circles_466 (by decide) ?_
  refine z_bipush (v := (6 : Int32)) C dL_circles_467 (by decide) ?_
  refine z_iconst (v := (1 : Int32)) C dL_circles_469 (by decide) ?_
  obtain ⟨t4, q4, hr⟩ := hr
  have q4 : m_X7_define 130 (5 : Int32) (1 : Int32) (6 : Int32) (1 : Int32) t3 = some (.inr 3, t4) := q4
  refine z_lS C 5 [.ref (ad 0), .int (5 : Int32), .int (1 : Int32), .int (6 : Int32), .int (1 : Int32)] [] (zBud_r hB) (cL_define_x3 (zC_I C) (zC_st C) q4) (gc gq_L_define) (by decide +kernel) rfl dL_circles_470 rfl ⟨Nat.le_of_ble_eq_true rfl, Nat.le_of_ble_eq_true rfl⟩ rfl (Nat.le_of_ble_eq_true rfl) ?_
  have C := zCT_p C (zBud_r hB); have hQ := hp _ hQ; have hB := zBud_p hB
  refine z_bipush (v := (-73 : Int32)) C dL_circles_473 (by decide) ?_
  refine z_icmp_ne (tgt := 500) C dL_circles_475 (by decide) (fun c => absurd (by decide) c) (fun _ => ?_)
  refine z_aload_n C dL_circles_478 rfl 0 rfl ?_
  refine z_iconst (v := (4 : Int32)) C dL_circles_479 (by decide) ?_
  refine z_iconst (v := (3 : Int32)) C dL_circles_480 (by decide) ?_
  refine z_iconst (v := (3 : Int32)) C dL_circles_481 (by decide) ?_
  refine z_sipush (v := (500 : Int32)) C dL_circles_482 (by decide) ?_
  obtain ⟨t5, q5, hr⟩ := hr
  have q5 : m_X7_define 130 (4 : Int32) (3 : Int32) (3 : Int32) (500 : Int32) t4 = some (.inr 3, t5) := q5
  refine z_lS C 5 [.ref (ad 0), .int (4 : Int32), .int (3 : Int32), .int (3 : Int32), .int (500 : Int32)] [] (zBud_r hB) (cL_define_x3 (zC_I C) (zC_st C) q5) (gc gq_L_define) (by decide +kernel) rfl dL_circles_485 rfl ⟨Nat.le_of_ble_eq_true rfl, Nat.le_of_ble_eq_true rfl⟩ rfl (Nat.le_of_ble_eq_true rfl) ?_
  have C := zCT_p C (zBud_r hB); have hQ := hp _ hQ; have hB := zBud_p hB
  refine z_bipush (v := (-73 : Int32)) C dL_circles_488 (by decide) ?_
  refine z_icmp_ne (tgt := 500) C dL_circles_490 (by decide) (fun c => absurd (by decide) c) (fun _ => ?_)
  have hr : t5 = s9 := hr
  subst hr
  exact kk _ C hQ hB
set_option maxRecDepth 100000 in
set_option maxHeartbeats 4000000 in
theorem wL_circles_5 {h : zH} {ad : Nat → Nat} {G : zG} (C : zCT [] h ad zLX 1 G cL_circles RL wq_circles 11 241) {QQ : zG → Prop} (hp : ∀ G, QQ G → QQ (zGp G)) (hq : ∀ G, QQ G → QQ (zGa G 180 1080)) (hQ : QQ G) {f : Nat} (hB : zBud G (f + 180)) {s s9 : zS} (hr : zRun sc_circles_5 s s9) (kk : ∀ G, zCT [] h ad zLX 1 G cL_circles RL wq_circles 11 241 → QQ G → zBud G f → zV h ad zLX 1 G s9 502 [(0, .ref (ad 0))] []) : zV h ad zLX 1 G s 493 [(0, .ref (ad 0))] [] := by
  refine z_aload_n C dL_circles_493 rfl 0 rfl ?_
  refine z_lK (f := f) (mc := 180) (ms := 1080) C 1 [.ref (ad 0)] [] hB rfl (coL_refuses (zC_I C) (zC_st C) (by decide) (by decide) hr) (gc gq_L_refuses) (by decide +kernel) rfl dL_circles_494 rfl ⟨Nat.le_of_ble_eq_true rfl, Nat.le_of_ble_eq_true rfl⟩ rfl (Nat.le_of_ble_eq_true rfl) ?_
  have C := zCT_a C (zBud_le hB (Nat.le_add_left _ _)) (Nat.le_refl 1080); have hQ := hq _ hQ; have hB := zBud_a hB
  refine z_if_ne (tgt := 502) C dL_circles_497 (by decide) (fun _ => ?_) (fun c => absurd c (by decide))
  exact kk _ C hQ hB
set_option maxRecDepth 100000 in
set_option maxHeartbeats 4000000 in
theorem wL_circles_6 {h : zH} {ad : Nat → Nat} {G : zG} (C : zCT [] h ad zLX 1 G cL_circles RL wq_circles 11 241) {QQ : zG → Prop} (hp : ∀ G, QQ G → QQ (zGp G)) (hq : ∀ G, QQ G → QQ (zGa G 180 1080)) (hQ : QQ G) {f : Nat} (hB : zBud G (f + 4)) {s s9 : zS} (hr : zRun sc_circles_6 s s9) (kk : ∀ G, zCT [] h ad zLX 1 G cL_circles RL wq_circles 11 241 → QQ G → zBud G f → zV h ad zLX 1 G s9 614 [(0, .ref (ad 0))] []) : zV h ad zLX 1 G s 502 [(0, .ref (ad 0))] [] := by
  refine z_aload_n C dL_circles_502 rfl 0 rfl ?_
  refine z_iconst (v := (0 : Int32)) C dL_circles_503 (by decide) ?_
  refine z_sipush (v := (500 : Int32)) C dL_circles_504 (by decide) ?_
  obtain ⟨t1, q1, hr⟩ := hr
  have q1 : m_X7_bracket 130 (0 : Int32) (500 : Int32) s = some (.inl (1 : Int32), t1) := q1
  refine z_cV (vd := false) (Cn := RX7) (k := 0) C 2 [.int (0 : Int32), .int (500 : Int32)] [] (c_X7_bracket (zC_I C) (zC_st C) q1) (gc gq_bracket) (by decide +kernel) kX0 vc7 rfl rfl dL_circles_507 rfl ⟨Nat.le_of_ble_eq_true rfl, Nat.le_of_ble_eq_true rfl⟩ rfl (Nat.le_of_ble_eq_true rfl) ?_
  refine z_iconst (v := (1 : Int32)) C dL_circles_510 (by decide) ?_
  refine z_icmp_ne (tgt := 741) C dL_circles_511 (by decide) (fun c => absurd (by decide) c) (fun _ => ?_)
  refine z_aload_n C dL_circles_514 rfl 0 rfl ?_
  refine z_bipush (v := (7 : Int32)) C dL_circles_515 (by decide) ?_
  refine z_bipush (v := (8 : Int32)) C dL_circles_517 (by decide) ?_
  refine z_bipush (v := (8 : Int32)) C dL_circles_519 (by decide) ?_
  refine z_bipush (v := (9 : Int32)) C dL_circles_521 (by decide) ?_
  obtain ⟨t2, q2, hr⟩ := hr
  have q2 : m_X7_define 130 (7 : Int32) (8 : Int32) (8 : Int32) (9 : Int32) t1 = some (.inl (0 : Int32), t2) := q2
  refine z_lS C 5 [.ref (ad 0), .int (7 : Int32), .int (8 : Int32), .int (8 : Int32), .int (9 : Int32)] [] (zBud_r hB) (cL_define_v (zC_I C) (zC_st C) q2) (gc gq_L_define) (by decide +kernel) rfl dL_circles_523 rfl ⟨Nat.le_of_ble_eq_true rfl, Nat.le_of_ble_eq_true rfl⟩ rfl (Nat.le_of_ble_eq_true rfl) ?_
  have C := zCT_p C (zBud_r hB); have hQ := hp _ hQ; have hB := zBud_p hB
  refine z_if_ne (tgt := 741) C dL_circles_526 (by decide) (fun c => absurd (by decide) c) (fun _ => ?_)
  refine z_aload_n C dL_circles_529 rfl 0 rfl ?_
  refine z_bipush (v := (8 : Int32)) C dL_circles_530 (by decide) ?_
  refine z_iconst (v := (0 : Int32)) C dL_circles_532 (by decide) ?_
  refine z_iconst (v := (0 : Int32)) C dL_circles_533 (by decide) ?_
  refine z_iconst (v := (0 : Int32)) C dL_circles_534 (by decide) ?_
  obtain ⟨t3, q3, hr⟩ := hr
  have q3 : m_X7_define 130 (8 : Int32) (0 : Int32) (0 : Int32) (0 : Int32) t2 = some (.inl (0 : Int32), t3) := q3
  refine z_lS C 5 [.ref (ad 0), .int (8 : Int32), .int (0 : Int32), .int (0 : Int32), .int (0 : Int32)] [] (zBud_r hB) (cL_define_v (zC_I C) (zC_st C) q3) (gc gq_L_define) (by decide +kernel) rfl dL_circles_535 rfl ⟨Nat.le_of_ble_eq_true rfl, Nat.le_of_ble_eq_true rfl⟩ rfl (Nat.le_of_ble_eq_true rfl) ?_
  have C := zCT_p C (zBud_r hB); have hQ := hp _ hQ; have hB := zBud_p hB
  refine z_if_ne (tgt := 741) C dL_circles_538 (by decide) (fun c => absurd (by decide) c) (fun _ => ?_)
  refine z_aload_n C dL_circles_541 rfl 0 rfl ?_
  refine z_bipush (v := (8 : Int32)) C dL_circles_542 (by decide) ?_
  refine z_sipush (v := (10000 : Int32)) C dL_circles_544 (by decide) ?_
  obtain ⟨t4, q4, hr⟩ := hr
  have q4 : m_X7_answer 130 (8 : Int32) (10000 : Int32) t3 = some (.inl (0 : Int32), t4) := q4
  refine z_cV (vd := false) (Cn := RX7) (k := 0) C 2 [.int (8 : Int32), .int (10000 : Int32)] [] (c_X7_answer (zC_I C) (zC_st C) q4) (gc gq_answer) (by decide +kernel) kX0 vc7 rfl rfl dL_circles_547 rfl ⟨Nat.le_of_ble_eq_true rfl, Nat.le_of_ble_eq_true rfl⟩ rfl (Nat.le_of_ble_eq_true rfl) ?_
  refine z_if_ne (tgt := 741) C dL_circles_550 (by decide) (fun c => absurd (by decide) c) (fun _ => ?_)
  refine z_aload_n C dL_circles_553 rfl 0 rfl ?_
  refine z_bipush (v := (10 : Int32)) C dL_circles_554 (by decide) ?_
  refine z_iconst (v := (2 : Int32)) C dL_circles_556 (by decide) ?_
  refine z_iconst (v := (1 : Int32)) C dL_circles_557 (by decide) ?_
  refine z_bipush (v := (7 : Int32)) C dL_circles_558 (by decide) ?_
  obtain ⟨t5, q5, hr⟩ := hr
  have q5 : m_X7_define 130 (10 : Int32) (2 : Int32) (1 : Int32) (7 : Int32) t4 = some (.inl (0 : Int32), t5) := q5
  refine z_lS C 5 [.ref (ad 0), .int (10 : Int32), .int (2 : Int32), .int (1 : Int32), .int (7 : Int32)] [] (zBud_r hB) (cL_define_v (zC_I C) (zC_st C) q5) (gc gq_L_define) (by decide +kernel) rfl dL_circles_560 rfl ⟨Nat.le_of_ble_eq_true rfl, Nat.le_of_ble_eq_true rfl⟩ rfl (Nat.le_of_ble_eq_true rfl) ?_
  have C := zCT_p C (zBud_r hB); have hQ := hp _ hQ; have hB := zBud_p hB
  refine z_if_ne (tgt := 741) C dL_circles_563 (by decide) (fun c => absurd (by decide) c) (fun _ => ?_)
  refine z_aload_n C dL_circles_566 rfl 0 rfl ?_
  refine z_bipush (v := (9 : Int32)) C dL_circles_567 (by decide) ?_
  refine z_bipush (v := (6 : Int32)) C dL_circles_569 (by decide) ?_
  refine z_bipush (v := (10 : Int32)) C dL_circles_571 (by decide) ?_
  refine z_iconst (v := (0 : Int32)) C dL_circles_573 (by decide) ?_
  obtain ⟨t6, q6, hr⟩ := hr
  have q6 : m_X7_define 130 (9 : Int32) (6 : Int32) (10 : Int32) (0 : Int32) t5 = some (.inl (0 : Int32), t6) := q6
  refine z_lS C 5 [.ref (ad 0), .int (9 : Int32), .int (6 : Int32), .int (10 : Int32), .int (0 : Int32)] [] (zBud_r hB) (cL_define_v (zC_I C) (zC_st C) q6) (gc gq_L_define) (by decide +kernel) rfl dL_circles_574 rfl ⟨Nat.le_of_ble_eq_true rfl, Nat.le_of_ble_eq_true rfl⟩ rfl (Nat.le_of_ble_eq_true rfl) ?_
  have C := zCT_p C (zBud_r hB); have hQ := hp _ hQ; have hB := zBud_p hB
  refine z_if_ne (tgt := 741) C dL_circles_577 (by decide) (fun c => absurd (by decide) c) (fun _ => ?_)
  refine z_aload_n C dL_circles_580 rfl 0 rfl ?_
  refine z_bipush (v := (7 : Int32)) C dL_circles_581 (by decide) ?_
  obtain ⟨t7, q7, hr⟩ := hr
  have q7 : m_X7_value 130 (7 : Int32) t6 = some (.inl (93 : Int32), t7) := q7
  refine z_cV (vd := false) (Cn := RX7) (k := 0) C 1 [.int (7 : Int32)] [] (c_X7_value (zC_I C) (zC_st C) q7) (gc gq_value) (by decide +kernel) kX0 vc7 rfl rfl dL_circles_583 rfl ⟨Nat.le_of_ble_eq_true rfl, Nat.le_of_ble_eq_true rfl⟩ rfl (Nat.le_of_ble_eq_true rfl) ?_
  refine z_bipush (v := (93 : Int32)) C dL_circles_586 (by decide) ?_
  refine z_icmp_ne (tgt := 741) C dL_circles_588 (by decide) (fun c => absurd (by decide) c) (fun _ => ?_)
  refine z_aload_n C dL_circles_591 rfl 0 rfl ?_
  refine z_bipush (v := (10 : Int32)) C dL_circles_592 (by decide) ?_
  obtain ⟨t8, q8, hr⟩ := hr
  have q8 : m_X7_value 130 (10 : Int32) t7 = some (.inl (187 : Int32), t8) := q8
  refine z_cV (vd := false) (Cn := RX7) (k := 0) C 1 [.int (10 : Int32)] [] (c_X7_value (zC_I C) (zC_st C) q8) (gc gq_value) (by decide +kernel) kX0 vc7 rfl rfl dL_circles_594 rfl ⟨Nat.le_of_ble_eq_true rfl, Nat.le_of_ble_eq_true rfl⟩ rfl (Nat.le_of_ble_eq_true rfl) ?_
  refine z_sipush (v := (187 : Int32)) C dL_circles_597 (by decide) ?_
  refine z_icmp_ne (tgt := 741) C dL_circles_600 (by decide) (fun c => absurd (by decide) c) (fun _ => ?_)
  refine z_aload_n C dL_circles_603 rfl 0 rfl ?_
  refine z_bipush (v := (9 : Int32)) C dL_circles_604 (by decide) ?_
  obtain ⟨t9, q9, hr⟩ := hr
  have q9 : m_X7_value 130 (9 : Int32) t8 = some (.inl (93 : Int32), t9) := q9
  refine z_cV (vd := false) (Cn := RX7) (k := 0) C 1 [.int (9 : Int32)] [] (c_X7_value (zC_I C) (zC_st C) q9) (gc gq_value) (by decide +kernel) kX0 vc7 rfl rfl dL_circles_606 rfl ⟨Nat.le_of_ble_eq_true rfl, Nat.le_of_ble_eq_true rfl⟩ rfl (Nat.le_of_ble_eq_true rfl) ?_
  refine z_bipush (v := (93 : Int32)) C dL_circles_609 (by decide) ?_
  refine z_icmp_ne (tgt := 741) C dL_circles_611 (by decide) (fun c => absurd (by decide) c) (fun _ => ?_)
  have hr : t9 = s9 := hr
  subst hr
  exact kk _ C hQ hB
set_option maxRecDepth 100000 in
set_option maxHeartbeats 4000000 in
theorem wL_circles_7 {h : zH} {ad : Nat → Nat} {G : zG} (C : zCT [] h ad zLX 1 G cL_circles RL wq_circles 11 241) {QQ : zG → Prop} (hp : ∀ G, QQ G → QQ (zGp G)) (hq : ∀ G, QQ G → QQ (zGa G 180 1080)) (hQ : QQ G) {f : Nat} (hB : zBud G (f + 0)) {s s9 : zS} (hr : zRun sc_circles_7 s s9) (kk : ∀ G, zCT [] h ad zLX 1 G cL_circles RL wq_circles 11 241 → QQ G → zBud G f → zV h ad zLX 1 G s9 718 [(0, .ref (ad 0))] []) : zV h ad zLX 1 G s 614 [(0, .ref (ad 0))] [] := by
  refine z_aload_n C dL_circles_614 rfl 0 rfl ?_
  refine z_bipush (v := (7 : Int32)) C dL_circles_615 (by decide) ?_
  refine z_bipush (v := (94 : Int32)) C dL_circles_617 (by decide) ?_
  obtain ⟨t1, q1, hr⟩ := hr
  have q1 : m_X7_boundFor 130 (7 : Int32) (94 : Int32) s = some (.inl (93 : Int32), t1) := q1
  refine z_cV (vd := false) (Cn := RX7) (k := 0) C 2 [.int (7 : Int32), .int (94 : Int32)] [] (c_X7_boundFor (zC_I C) (zC_st C) q1) (gc gq_boundFor) (by decide +kernel) kX0 vc7 rfl rfl dL_circles_619 rfl ⟨Nat.le_of_ble_eq_true rfl, Nat.le_of_ble_eq_true rfl⟩ rfl (Nat.le_of_ble_eq_true rfl) ?_
  refine z_bipush (v := (93 : Int32)) C dL_circles_622 (by decide) ?_
  refine z_icmp_ne (tgt := 741) C dL_circles_624 (by decide) (fun c => absurd (by decide) c) (fun _ => ?_)
  refine z_aload_n C dL_circles_627 rfl 0 rfl ?_
  refine z_bipush (v := (7 : Int32)) C dL_circles_628 (by decide) ?_
  refine z_iconst (v := (0 : Int32)) C dL_circles_630 (by decide) ?_
  obtain ⟨t2, q2, hr⟩ := hr
  have q2 : m_X7_boundFor 130 (7 : Int32) (0 : Int32) t1 = some (.inl (140 : Int32), t2) := q2
  refine z_cV (vd := false) (Cn := RX7) (k := 0) C 2 [.int (7 : Int32), .int (0 : Int32)] [] (c_X7_boundFor (zC_I C) (zC_st C) q2) (gc gq_boundFor) (by decide +kernel) kX0 vc7 rfl rfl dL_circles_631 rfl ⟨Nat.le_of_ble_eq_true rfl, Nat.le_of_ble_eq_true rfl⟩ rfl (Nat.le_of_ble_eq_true rfl) ?_
  refine z_sipush (v := (140 : Int32)) C dL_circles_634 (by decide) ?_
  refine z_icmp_ne (tgt := 741) C dL_circles_637 (by decide) (fun c => absurd (by decide) c) (fun _ => ?_)
  refine z_aload_n C dL_circles_640 rfl 0 rfl ?_
  refine z_bipush (v := (7 : Int32)) C dL_circles_641 (by decide) ?_
  refine z_iconst (v := (1 : Int32)) C dL_circles_643 (by decide) ?_
  obtain ⟨t3, q3, hr⟩ := hr
  have q3 : m_X7_dependsOn 130 (7 : Int32) (1 : Int32) t2 = some (.inl (1 : Int32), t3) := q3
  refine z_cV (vd := false) (Cn := RX7) (k := 0) C 2 [.int (7 : Int32), .int (1 : Int32)] [] (c_X7_dependsOn (zC_I C) (zC_st C) q3) (gc gq_dependsOn) (by decide +kernel) kX0 vc7 rfl rfl dL_circles_644 rfl ⟨Nat.le_of_ble_eq_true rfl, Nat.le_of_ble_eq_true rfl⟩ rfl (Nat.le_of_ble_eq_true rfl) ?_
  refine z_if_eq (tgt := 741) C dL_circles_647 (by decide) (fun c => absurd c (by decide)) (fun _ => ?_)
  refine z_aload_n C dL_circles_650 rfl 0 rfl ?_
  refine z_iconst (v := (1 : Int32)) C dL_circles_651 (by decide) ?_
  refine z_bipush (v := (7 : Int32)) C dL_circles_652 (by decide) ?_
  obtain ⟨t4, q4, hr⟩ := hr
  have q4 : m_X7_dependsOn 130 (1 : Int32) (7 : Int32) t3 = some (.inl (0 : Int32), t4) := q4
  refine z_cV (vd := false) (Cn := RX7) (k := 0) C 2 [.int (1 : Int32), .int (7 : Int32)] [] (c_X7_dependsOn (zC_I C) (zC_st C) q4) (gc gq_dependsOn) (by decide +kernel) kX0 vc7 rfl rfl dL_circles_654 rfl ⟨Nat.le_of_ble_eq_true rfl, Nat.le_of_ble_eq_true rfl⟩ rfl (Nat.le_of_ble_eq_true rfl) ?_
  refine z_if_ne (tgt := 741) C dL_circles_657 (by decide) (fun c => absurd (by decide) c) (fun _ => ?_)
  refine z_aload_n C dL_circles_660 rfl 0 rfl ?_
  refine z_bipush (v := (7 : Int32)) C dL_circles_661 (by decide) ?_
  refine z_iconst (v := (1 : Int32)) C dL_circles_663 (by decide) ?_
  obtain ⟨t5, q5, hr⟩ := hr
  have q5 : m_X7_why 130 (7 : Int32) (1 : Int32) t4 = some (.inl (9 : Int32), t5) := q5
  refine z_cV (vd := false) (Cn := RX7) (k := 0) C 2 [.int (7 : Int32), .int (1 : Int32)] [] (c_X7_why (zC_I C) (zC_st C) q5) (gc gq_why) (by decide +kernel) kX0 vc7 rfl rfl dL_circles_664 rfl ⟨Nat.le_of_ble_eq_true rfl, Nat.le_of_ble_eq_true rfl⟩ rfl (Nat.le_of_ble_eq_true rfl) ?_
  refine z_bipush (v := (9 : Int32)) C dL_circles_667 (by decide) ?_
  refine z_icmp_ne (tgt := 741) C dL_circles_669 (by decide) (fun c => absurd (by decide) c) (fun _ => ?_)
  refine z_aload_n C dL_circles_672 rfl 0 rfl ?_
  refine z_bipush (v := (7 : Int32)) C dL_circles_673 (by decide) ?_
  refine z_iconst (v := (2 : Int32)) C dL_circles_675 (by decide) ?_
  obtain ⟨t6, q6, hr⟩ := hr
  have q6 : m_X7_why 130 (7 : Int32) (2 : Int32) t5 = some (.inl (10 : Int32), t6) := q6
  refine z_cV (vd := false) (Cn := RX7) (k := 0) C 2 [.int (7 : Int32), .int (2 : Int32)] [] (c_X7_why (zC_I C) (zC_st C) q6) (gc gq_why) (by decide +kernel) kX0 vc7 rfl rfl dL_circles_676 rfl ⟨Nat.le_of_ble_eq_true rfl, Nat.le_of_ble_eq_true rfl⟩ rfl (Nat.le_of_ble_eq_true rfl) ?_
  refine z_bipush (v := (10 : Int32)) C dL_circles_679 (by decide) ?_
  refine z_icmp_ne (tgt := 741) C dL_circles_681 (by decide) (fun c => absurd (by decide) c) (fun _ => ?_)
  refine z_aload_n C dL_circles_684 rfl 0 rfl ?_
  refine z_bipush (v := (7 : Int32)) C dL_circles_685 (by decide) ?_
  refine z_iconst (v := (3 : Int32)) C dL_circles_687 (by decide) ?_
  obtain ⟨t7, q7, hr⟩ := hr
  have q7 : m_X7_why 130 (7 : Int32) (3 : Int32) t6 = some (.inl (1 : Int32), t7) := q7
  refine z_cV (vd := false) (Cn := RX7) (k := 0) C 2 [.int (7 : Int32), .int (3 : Int32)] [] (c_X7_why (zC_I C) (zC_st C) q7) (gc gq_why) (by decide +kernel) kX0 vc7 rfl rfl dL_circles_688 rfl ⟨Nat.le_of_ble_eq_true rfl, Nat.le_of_ble_eq_true rfl⟩ rfl (Nat.le_of_ble_eq_true rfl) ?_
  refine z_iconst (v := (1 : Int32)) C dL_circles_691 (by decide) ?_
  refine z_icmp_ne (tgt := 741) C dL_circles_692 (by decide) (fun c => absurd (by decide) c) (fun _ => ?_)
  refine z_aload_n C dL_circles_695 rfl 0 rfl ?_
  refine z_bipush (v := (7 : Int32)) C dL_circles_696 (by decide) ?_
  refine z_iconst (v := (4 : Int32)) C dL_circles_698 (by decide) ?_
  obtain ⟨t8, q8, hr⟩ := hr
  have q8 : m_X7_why 130 (7 : Int32) (4 : Int32) t7 = some (.inl (3 : Int32), t8) := q8
  refine z_cV (vd := false) (Cn := RX7) (k := 0) C 2 [.int (7 : Int32), .int (4 : Int32)] [] (c_X7_why (zC_I C) (zC_st C) q8) (gc gq_why) (by decide +kernel) kX0 vc7 rfl rfl dL_circles_699 rfl ⟨Nat.le_of_ble_eq_true rfl, Nat.le_of_ble_eq_true rfl⟩ rfl (Nat.le_of_ble_eq_true rfl) ?_
  refine z_iconst (v := (3 : Int32)) C dL_circles_702 (by decide) ?_
  refine z_icmp_ne (tgt := 741) C dL_circles_703 (by decide) (fun c => absurd (by decide) c) (fun _ => ?_)
  refine z_aload_n C dL_circles_706 rfl 0 rfl ?_
  refine z_bipush (v := (7 : Int32)) C dL_circles_707 (by decide) ?_
  refine z_bipush (v := (7 : Int32)) C dL_circles_709 (by decide) ?_
  obtain ⟨t9, q9, hr⟩ := hr
  have q9 : m_X7_why 130 (7 : Int32) (7 : Int32) t8 = some (.inl (4 : Int32), t9) := q9
  refine z_cV (vd := false) (Cn := RX7) (k := 0) C 2 [.int (7 : Int32), .int (7 : Int32)] [] (c_X7_why (zC_I C) (zC_st C) q9) (gc gq_why) (by decide +kernel) kX0 vc7 rfl rfl dL_circles_711 rfl ⟨Nat.le_of_ble_eq_true rfl, Nat.le_of_ble_eq_true rfl⟩ rfl (Nat.le_of_ble_eq_true rfl) ?_
  refine z_iconst (v := (4 : Int32)) C dL_circles_714 (by decide) ?_
  refine z_icmp_ne (tgt := 741) C dL_circles_715 (by decide) (fun c => absurd (by decide) c) (fun _ => ?_)
  have hr : t9 = s9 := hr
  subst hr
  exact kk _ C hQ hB
set_option maxRecDepth 100000 in
set_option maxHeartbeats 4000000 in
theorem wL_circles_8 {h : zH} {ad : Nat → Nat} {G : zG} (C : zCT [] h ad zLX 1 G cL_circles RL wq_circles 11 241) {QQ : zG → Prop} (hp : ∀ G, QQ G → QQ (zGp G)) (hq : ∀ G, QQ G → QQ (zGa G 180 1080)) (hQ : QQ G) {f : Nat} (hB : zBud G (f + 0)) {s s9 : zS} (hr : zRun sc_circles_8 s s9) (kk : ∀ G, zCT [] h ad zLX 1 G cL_circles RL wq_circles 11 241 → QQ G → zBud G f → zV h ad zLX 1 G s9 730 [(0, .ref (ad 0))] []) : zV h ad zLX 1 G s 718 [(0, .ref (ad 0))] [] := by
  refine z_aload_n C dL_circles_718 rfl 0 rfl ?_
  refine z_bipush (v := (7 : Int32)) C dL_circles_719 (by decide) ?_
  refine z_bipush (v := (8 : Int32)) C dL_circles_721 (by decide) ?_
  obtain ⟨t1, q1, hr⟩ := hr
  have q1 : m_X7_why 130 (7 : Int32) (8 : Int32) s = some (.inl (-1 : Int32), t1) := q1
  refine z_cV (vd := false) (Cn := RX7) (k := 0) C 2 [.int (7 : Int32), .int (8 : Int32)] [] (c_X7_why (zC_I C) (zC_st C) q1) (gc gq_why) (by decide +kernel) kX0 vc7 rfl rfl dL_circles_723 rfl ⟨Nat.le_of_ble_eq_true rfl, Nat.le_of_ble_eq_true rfl⟩ rfl (Nat.le_of_ble_eq_true rfl) ?_
  refine z_iconst (v := (-1 : Int32)) C dL_circles_726 (by decide) ?_
  refine z_icmp_ne (tgt := 741) C dL_circles_727 (by decide) (fun c => absurd (by decide) c) (fun _ => ?_)
  have hr : t1 = s9 := hr
  subst hr
  exact kk _ C hQ hB
set_option maxRecDepth 100000 in
set_option maxHeartbeats 4000000 in
theorem wL_circles_9 {h : zH} {ad : Nat → Nat} {G : zG} (C : zCT [] h ad zLX 1 G cL_circles RL wq_circles 11 241) {QQ : zG → Prop} (hp : ∀ G, QQ G → QQ (zGp G)) (hq : ∀ G, QQ G → QQ (zGa G 180 1080)) (hQ : QQ G) {f : Nat} (hB : zBud G (f + 180)) {s s9 : zS} (hr : zRun sc_circles_9 s s9) (kk : ∀ G, zCT [] h ad zLX 1 G cL_circles RL wq_circles 11 241 → QQ G → zBud G f → zV h ad zLX 1 G s9 737 [(0, .ref (ad 0))] []) : zV h ad zLX 1 G s 730 [(0, .ref (ad 0))] [] := by
  refine z_aload_n C dL_circles_730 rfl 0 rfl ?_
  refine z_lK (f := f) (mc := 180) (ms := 1080) C 1 [.ref (ad 0)] [] hB rfl (coL_refuses (zC_I C) (zC_st C) (by decide) (by decide) hr) (gc gq_L_refuses) (by decide +kernel) rfl dL_circles_731 rfl ⟨Nat.le_of_ble_eq_true rfl, Nat.le_of_ble_eq_true rfl⟩ rfl (Nat.le_of_ble_eq_true rfl) ?_
  have C := zCT_a C (zBud_le hB (Nat.le_add_left _ _)) (Nat.le_refl 1080); have hQ := hq _ hQ; have hB := zBud_a hB
  refine z_if_eq (tgt := 741) C dL_circles_734 (by decide) (fun c => absurd c (by decide)) (fun _ => ?_)
  exact kk _ C hQ hB
set_option maxRecDepth 100000 in
set_option maxHeartbeats 4000000 in
theorem wL_circles_10 {h : zH} {ad : Nat → Nat} {G : zG} (C : zCT [] h ad zLX 1 G cL_circles RL wq_circles 11 241) {QQ : zG → Prop} (hp : ∀ G, QQ G → QQ (zGp G)) (hq : ∀ G, QQ G → QQ (zGa G 180 1080)) (hQ : QQ G) {f : Nat} (hB : zBud G (f + 0)) {s s9 : zS} (hr : zRun sc_circles_10 s s9) (kk : ∀ G, zCT [] h ad zLX 1 G cL_circles RL wq_circles 11 241 → QQ G → zBud G f → zV h ad zLX 1 G s9 742 [(0, .ref (ad 0))] [.int (1 : Int32)]) : zV h ad zLX 1 G s 737 [(0, .ref (ad 0))] [] := by
  refine z_iconst (v := (1 : Int32)) C dL_circles_737 (by decide) ?_
  refine z_goto (tgt := 742) C dL_circles_738 (by decide) ?_
  have hr : s = s9 := hr
  subst hr
  exact kk _ C hQ hB
