/-! years, piece by piece -/
set_option maxRecDepth 100000 in
set_option maxHeartbeats 4000000 in
theorem wL_years_0 {h : zH} {ad : Nat → Nat} {G : zG} (C : zCT [] h ad zLX 2 G cL_years RL wq_years 11 241) {QQ : zG → Prop} (hp : ∀ G, QQ G → QQ (zGp G)) (hq : ∀ G, QQ G → QQ (zGa G 180 1080)) (hQ : QQ G) {f : Nat} (hB : zBud G (f + 1)) {s s9 : zS} (hr : zRun sc_years_0 s s9) (kk : ∀ G, zCT [] h ad zLX 2 G cL_years RL wq_years 11 241 → QQ G → zBud G f → zV h ad zLX 2 G s9 107 [(0, .ref (ad 0))] []) : zV h ad zLX 2 G s 8 [(0, .ref (ad 0))] [] := by
  refine z_aload_n C dL_years_8 rfl 0 rfl ?_
  refine z_bipush (v := (50 : Int32)) C dL_years_9 (by decide) ?_
  refine z_iconst (v := (3 : Int32)) C dL_years_11 (by decide) ?_
  obtain ⟨t1, q1, hr⟩ := hr
  have q1 : m_X7_carry 130 (50 : Int32) (3 : Int32) s = some (.inl (50 : Int32), t1) := q1
  refine z_cV (vd := false) (Cn := RX7) (k := 0) C 2 [.int (50 : Int32), .int (3 : Int32)] [] (c_X7_carry (zC_I C) (zC_st C) q1) (gc gq_carry) (by decide +kernel) kX0 vc7 rfl rfl dL_years_12 rfl ⟨Nat.le_of_ble_eq_true rfl, Nat.le_of_ble_eq_true rfl⟩ rfl (Nat.le_of_ble_eq_true rfl) ?_
  refine z_bipush (v := (50 : Int32)) C dL_years_15 (by decide) ?_
  refine z_icmp_ne (tgt := 308) C dL_years_17 (by decide) (fun c => absurd (by decide) c) (fun _ => ?_)
  refine z_aload_n C dL_years_20 rfl 0 rfl ?_
  refine z_bipush (v := (20 : Int32)) C dL_years_21 (by decide) ?_
  refine z_iconst (v := (1 : Int32)) C dL_years_23 (by decide) ?_
  obtain ⟨t2, q2, hr⟩ := hr
  have q2 : m_X7_carry 130 (20 : Int32) (1 : Int32) t1 = some (.inl (70 : Int32), t2) := q2
  refine z_cV (vd := false) (Cn := RX7) (k := 0) C 2 [.int (20 : Int32), .int (1 : Int32)] [] (c_X7_carry (zC_I C) (zC_st C) q2) (gc gq_carry) (by decide +kernel) kX0 vc7 rfl rfl dL_years_24 rfl ⟨Nat.le_of_ble_eq_true rfl, Nat.le_of_ble_eq_true rfl⟩ rfl (Nat.le_of_ble_eq_true rfl) ?_
  refine z_bipush (v := (70 : Int32)) C dL_years_27 (by decide) ?_
  refine z_icmp_ne (tgt := 308) C dL_years_29 (by decide) (fun c => absurd (by decide) c) (fun _ => ?_)
  refine z_aload_n C dL_years_32 rfl 0 rfl ?_
  refine z_bipush (v := (30 : Int32)) C dL_years_33 (by decide) ?_
  refine z_iconst (v := (3 : Int32)) C dL_years_35 (by decide) ?_
  obtain ⟨t3, q3, hr⟩ := hr
  have q3 : m_X7_carry 130 (30 : Int32) (3 : Int32) t2 = some (.inl (100 : Int32), t3) := q3
  refine z_cV (vd := false) (Cn := RX7) (k := 0) C 2 [.int (30 : Int32), .int (3 : Int32)] [] (c_X7_carry (zC_I C) (zC_st C) q3) (gc gq_carry) (by decide +kernel) kX0 vc7 rfl rfl dL_years_36 rfl ⟨Nat.le_of_ble_eq_true rfl, Nat.le_of_ble_eq_true rfl⟩ rfl (Nat.le_of_ble_eq_true rfl) ?_
  refine z_bipush (v := (100 : Int32)) C dL_years_39 (by decide) ?_
  refine z_icmp_ne (tgt := 308) C dL_years_41 (by decide) (fun c => absurd (by decide) c) (fun _ => ?_)
  refine z_aload_n C dL_years_44 rfl 0 rfl ?_
  refine z_iconst (v := (5 : Int32)) C dL_years_45 (by decide) ?_
  refine z_iconst (v := (0 : Int32)) C dL_years_46 (by decide) ?_
  obtain ⟨t4, q4, hr⟩ := hr
  have q4 : m_X7_carry 130 (5 : Int32) (0 : Int32) t3 = some (.inl (105 : Int32), t4) := q4
  refine z_cV (vd := false) (Cn := RX7) (k := 0) C 2 [.int (5 : Int32), .int (0 : Int32)] [] (c_X7_carry (zC_I C) (zC_st C) q4) (gc gq_carry) (by decide +kernel) kX0 vc7 rfl rfl dL_years_47 rfl ⟨Nat.le_of_ble_eq_true rfl, Nat.le_of_ble_eq_true rfl⟩ rfl (Nat.le_of_ble_eq_true rfl) ?_
  refine z_bipush (v := (105 : Int32)) C dL_years_50 (by decide) ?_
  refine z_icmp_ne (tgt := 308) C dL_years_52 (by decide) (fun c => absurd (by decide) c) (fun _ => ?_)
  refine z_aload_n C dL_years_55 rfl 0 rfl ?_
  refine z_iconst (v := (0 : Int32)) C dL_years_56 (by decide) ?_
  obtain ⟨t5, q5, hr⟩ := hr
  have q5 : m_X7_carriedAt 130 (0 : Int32) t4 = some (.inl (5 : Int32), t5) := q5
  refine z_cV (vd := false) (Cn := RX7) (k := 0) C 1 [.int (0 : Int32)] [] (c_X7_carriedAt (zC_I C) (zC_st C) q5) (gc gq_carriedAt) (by decide +kernel) kX0 vc7 rfl rfl dL_years_57 rfl ⟨Nat.le_of_ble_eq_true rfl, Nat.le_of_ble_eq_true rfl⟩ rfl (Nat.le_of_ble_eq_true rfl) ?_
  refine z_iconst (v := (5 : Int32)) C dL_years_60 (by decide) ?_
  refine z_icmp_ne (tgt := 308) C dL_years_61 (by decide) (fun c => absurd (by decide) c) (fun _ => ?_)
  refine z_aload_n C dL_years_64 rfl 0 rfl ?_
  refine z_iconst (v := (1 : Int32)) C dL_years_65 (by decide) ?_
  obtain ⟨t6, q6, hr⟩ := hr
  have q6 : m_X7_carriedAt 130 (1 : Int32) t5 = some (.inl (20 : Int32), t6) := q6
  refine z_cV (vd := false) (Cn := RX7) (k := 0) C 1 [.int (1 : Int32)] [] (c_X7_carriedAt (zC_I C) (zC_st C) q6) (gc gq_carriedAt) (by decide +kernel) kX0 vc7 rfl rfl dL_years_66 rfl ⟨Nat.le_of_ble_eq_true rfl, Nat.le_of_ble_eq_true rfl⟩ rfl (Nat.le_of_ble_eq_true rfl) ?_
  refine z_bipush (v := (20 : Int32)) C dL_years_69 (by decide) ?_
  refine z_icmp_ne (tgt := 308) C dL_years_71 (by decide) (fun c => absurd (by decide) c) (fun _ => ?_)
  refine z_aload_n C dL_years_74 rfl 0 rfl ?_
  refine z_iconst (v := (2 : Int32)) C dL_years_75 (by decide) ?_
  obtain ⟨t7, q7, hr⟩ := hr
  have q7 : m_X7_carriedAt 130 (2 : Int32) t6 = some (.inl (50 : Int32), t7) := q7
  refine z_cV (vd := false) (Cn := RX7) (k := 0) C 1 [.int (2 : Int32)] [] (c_X7_carriedAt (zC_I C) (zC_st C) q7) (gc gq_carriedAt) (by decide +kernel) kX0 vc7 rfl rfl dL_years_76 rfl ⟨Nat.le_of_ble_eq_true rfl, Nat.le_of_ble_eq_true rfl⟩ rfl (Nat.le_of_ble_eq_true rfl) ?_
  refine z_bipush (v := (50 : Int32)) C dL_years_79 (by decide) ?_
  refine z_icmp_ne (tgt := 308) C dL_years_81 (by decide) (fun c => absurd (by decide) c) (fun _ => ?_)
  refine z_aload_n C dL_years_84 rfl 0 rfl ?_
  refine z_iconst (v := (3 : Int32)) C dL_years_85 (by decide) ?_
  obtain ⟨t8, q8, hr⟩ := hr
  have q8 : m_X7_carriedAt 130 (3 : Int32) t7 = some (.inl (30 : Int32), t8) := q8
  refine z_cV (vd := false) (Cn := RX7) (k := 0) C 1 [.int (3 : Int32)] [] (c_X7_carriedAt (zC_I C) (zC_st C) q8) (gc gq_carriedAt) (by decide +kernel) kX0 vc7 rfl rfl dL_years_86 rfl ⟨Nat.le_of_ble_eq_true rfl, Nat.le_of_ble_eq_true rfl⟩ rfl (Nat.le_of_ble_eq_true rfl) ?_
  refine z_bipush (v := (30 : Int32)) C dL_years_89 (by decide) ?_
  refine z_icmp_ne (tgt := 308) C dL_years_91 (by decide) (fun c => absurd (by decide) c) (fun _ => ?_)
  refine z_aload_n C dL_years_94 rfl 0 rfl ?_
  refine z_bipush (v := (10 : Int32)) C dL_years_95 (by decide) ?_
  refine z_iconst (v := (4 : Int32)) C dL_years_97 (by decide) ?_
  refine z_iconst (v := (0 : Int32)) C dL_years_98 (by decide) ?_
  obtain ⟨t9, q9, hr⟩ := hr
  have q9 : m_X7_carriedAt 130 (4 : Int32) t8 = some (.inr 1, t9) := q9
  refine z_lS C 4 [.ref (ad 0), .int (10 : Int32), .int (4 : Int32), .int (0 : Int32)] [] (zBud_r hB) (cL_act_carriedAt_x1 (zC_I C) (zC_st C) q9) (gc gq_L_act) (by decide +kernel) rfl dL_years_99 rfl ⟨Nat.le_of_ble_eq_true rfl, Nat.le_of_ble_eq_true rfl⟩ rfl (Nat.le_of_ble_eq_true rfl) ?_
  have C := zCT_p C (zBud_r hB); have hQ := hp _ hQ; have hB := zBud_p hB
  refine z_bipush (v := (-71 : Int32)) C dL_years_102 (by decide) ?_
  refine z_icmp_ne (tgt := 308) C dL_years_104 (by decide) (fun c => absurd (by decide) c) (fun _ => ?_)
  have hr : t9 = s9 := hr
  subst hr
  exact kk _ C hQ hB
set_option maxRecDepth 100000 in
set_option maxHeartbeats 4000000 in
theorem wL_years_1 {h : zH} {ad : Nat → Nat} {G : zG} (C : zCT [] h ad zLX 2 G cL_years RL wq_years 11 241) {QQ : zG → Prop} (hp : ∀ G, QQ G → QQ (zGp G)) (hq : ∀ G, QQ G → QQ (zGa G 180 1080)) (hQ : QQ G) {f : Nat} (hB : zBud G (f + 3)) {s s9 : zS} (hr : zRun sc_years_1 s s9) (kk : ∀ G, zCT [] h ad zLX 2 G cL_years RL wq_years 11 241 → QQ G → zBud G f → zV h ad zLX 2 G s9 200 [(0, .ref (ad 0))] []) : zV h ad zLX 2 G s 107 [(0, .ref (ad 0))] [] := by
  refine z_aload_n C dL_years_107 rfl 0 rfl ?_
  refine z_iconst (v := (1 : Int32)) C dL_years_108 (by decide) ?_
  refine z_bipush (v := (7 : Int32)) C dL_years_109 (by decide) ?_
  refine z_iconst (v := (0 : Int32)) C dL_years_111 (by decide) ?_
  refine z_iconst (v := (0 : Int32)) C dL_years_112 (by decide) ?_
  obtain ⟨t1, q1, hr⟩ := hr
  have q1 : m_X7_define 130 (1 : Int32) (7 : Int32) (0 : Int32) (0 : Int32) s = some (.inl (0 : Int32), t1) := q1
  refine z_lS C 5 [.ref (ad 0), .int (1 : Int32), .int (7 : Int32), .int (0 : Int32), .int (0 : Int32)] [] (zBud_r hB) (cL_define_v (zC_I C) (zC_st C) q1) (gc gq_L_define) (by decide +kernel) rfl dL_years_113 rfl ⟨Nat.le_of_ble_eq_true rfl, Nat.le_of_ble_eq_true rfl⟩ rfl (Nat.le_of_ble_eq_true rfl) ?_
  have C := zCT_p C (zBud_r hB); have hQ := hp _ hQ; have hB := zBud_p hB
  refine z_if_ne (tgt := 308) C dL_years_116 (by decide) (fun c => absurd (by decide) c) (fun _ => ?_)
  refine z_aload_n C dL_years_119 rfl 0 rfl ?_
  refine z_iconst (v := (2 : Int32)) C dL_years_120 (by decide) ?_
  refine z_bipush (v := (7 : Int32)) C dL_years_121 (by decide) ?_
  refine z_iconst (v := (0 : Int32)) C dL_years_123 (by decide) ?_
  refine z_iconst (v := (0 : Int32)) C dL_years_124 (by decide) ?_
  obtain ⟨t2, q2, hr⟩ := hr
  have q2 : m_X7_define 130 (2 : Int32) (7 : Int32) (0 : Int32) (0 : Int32) t1 = some (.inl (0 : Int32), t2) := q2
  refine z_lS C 5 [.ref (ad 0), .int (2 : Int32), .int (7 : Int32), .int (0 : Int32), .int (0 : Int32)] [] (zBud_r hB) (cL_define_v (zC_I C) (zC_st C) q2) (gc gq_L_define) (by decide +kernel) rfl dL_years_125 rfl ⟨Nat.le_of_ble_eq_true rfl, Nat.le_of_ble_eq_true rfl⟩ rfl (Nat.le_of_ble_eq_true rfl) ?_
  have C := zCT_p C (zBud_r hB); have hQ := hp _ hQ; have hB := zBud_p hB
  refine z_if_ne (tgt := 308) C dL_years_128 (by decide) (fun c => absurd (by decide) c) (fun _ => ?_)
  refine z_aload_n C dL_years_131 rfl 0 rfl ?_
  refine z_iconst (v := (0 : Int32)) C dL_years_132 (by decide) ?_
  refine z_bipush (v := (40 : Int32)) C dL_years_133 (by decide) ?_
  obtain ⟨t3, q3, hr⟩ := hr
  have q3 : m_X7_answer 130 (0 : Int32) (40 : Int32) t2 = some (.inl (0 : Int32), t3) := q3
  refine z_cV (vd := false) (Cn := RX7) (k := 0) C 2 [.int (0 : Int32), .int (40 : Int32)] [] (c_X7_answer (zC_I C) (zC_st C) q3) (gc gq_answer) (by decide +kernel) kX0 vc7 rfl rfl dL_years_135 rfl ⟨Nat.le_of_ble_eq_true rfl, Nat.le_of_ble_eq_true rfl⟩ rfl (Nat.le_of_ble_eq_true rfl) ?_
  refine z_if_ne (tgt := 308) C dL_years_138 (by decide) (fun c => absurd (by decide) c) (fun _ => ?_)
  refine z_aload_n C dL_years_141 rfl 0 rfl ?_
  refine z_iconst (v := (1 : Int32)) C dL_years_142 (by decide) ?_
  obtain ⟨t4, q4, hr⟩ := hr
  have q4 : m_X7_value 130 (1 : Int32) t3 = some (.inl (40 : Int32), t4) := q4
  refine z_cV (vd := false) (Cn := RX7) (k := 0) C 1 [.int (1 : Int32)] [] (c_X7_value (zC_I C) (zC_st C) q4) (gc gq_value) (by decide +kernel) kX0 vc7 rfl rfl dL_years_143 rfl ⟨Nat.le_of_ble_eq_true rfl, Nat.le_of_ble_eq_true rfl⟩ rfl (Nat.le_of_ble_eq_true rfl) ?_
  refine z_bipush (v := (40 : Int32)) C dL_years_146 (by decide) ?_
  refine z_icmp_ne (tgt := 308) C dL_years_148 (by decide) (fun c => absurd (by decide) c) (fun _ => ?_)
  refine z_aload_n C dL_years_151 rfl 0 rfl ?_
  obtain ⟨t5, q5, hr⟩ := hr
  have q5 : m_X7_closeYear 130 t4 = some ((80 : Int32), t5) := zNl_of q5
  refine z_cV (vd := false) (Cn := RX7) (k := 0) C 0 [] [] (c_X7_closeYear (zC_I C) (zC_st C) q5) (gc gq_closeYear) (by decide +kernel) kX0 vc7 rfl rfl dL_years_152 rfl ⟨Nat.le_of_ble_eq_true rfl, Nat.le_of_ble_eq_true rfl⟩ rfl (Nat.le_of_ble_eq_true rfl) ?_
  refine z_bipush (v := (80 : Int32)) C dL_years_155 (by decide) ?_
  refine z_icmp_ne (tgt := 308) C dL_years_157 (by decide) (fun c => absurd (by decide) c) (fun _ => ?_)
  refine z_aload_n C dL_years_160 rfl 0 rfl ?_
  obtain ⟨t6, q6, hr⟩ := hr
  have q6 : m_X7_year 130 t5 = some ((1 : Int32), t6) := zNl_of q6
  refine z_cV (vd := false) (Cn := RX7) (k := 0) C 0 [] [] (c_X7_year (zC_I C) (zC_st C) q6) (gc gq_year) (by decide +kernel) kX0 vc7 rfl rfl dL_years_161 rfl ⟨Nat.le_of_ble_eq_true rfl, Nat.le_of_ble_eq_true rfl⟩ rfl (Nat.le_of_ble_eq_true rfl) ?_
  refine z_iconst (v := (1 : Int32)) C dL_years_164 (by decide) ?_
  refine z_icmp_ne (tgt := 308) C dL_years_165 (by decide) (fun c => absurd (by decide) c) (fun _ => ?_)
  refine z_aload_n C dL_years_168 rfl 0 rfl ?_
  obtain ⟨t7, q7, hr⟩ := hr
  have q7 : m_X7_carried 130 t6 = some ((25 : Int32), t7) := zNl_of q7
  refine z_cV (vd := false) (Cn := RX7) (k := 0) C 0 [] [] (c_X7_carried (zC_I C) (zC_st C) q7) (gc gq_carried) (by decide +kernel) kX0 vc7 rfl rfl dL_years_169 rfl ⟨Nat.le_of_ble_eq_true rfl, Nat.le_of_ble_eq_true rfl⟩ rfl (Nat.le_of_ble_eq_true rfl) ?_
  refine z_bipush (v := (25 : Int32)) C dL_years_172 (by decide) ?_
  refine z_icmp_ne (tgt := 308) C dL_years_174 (by decide) (fun c => absurd (by decide) c) (fun _ => ?_)
  refine z_aload_n C dL_years_177 rfl 0 rfl ?_
  refine z_iconst (v := (0 : Int32)) C dL_years_178 (by decide) ?_
  obtain ⟨t8, q8, hr⟩ := hr
  have q8 : m_X7_carriedAt 130 (0 : Int32) t7 = some (.inl (25 : Int32), t8) := q8
  refine z_cV (vd := false) (Cn := RX7) (k := 0) C 1 [.int (0 : Int32)] [] (c_X7_carriedAt (zC_I C) (zC_st C) q8) (gc gq_carriedAt) (by decide +kernel) kX0 vc7 rfl rfl dL_years_179 rfl ⟨Nat.le_of_ble_eq_true rfl, Nat.le_of_ble_eq_true rfl⟩ rfl (Nat.le_of_ble_eq_true rfl) ?_
  refine z_bipush (v := (25 : Int32)) C dL_years_182 (by decide) ?_
  refine z_icmp_ne (tgt := 308) C dL_years_184 (by decide) (fun c => absurd (by decide) c) (fun _ => ?_)
  refine z_aload_n C dL_years_187 rfl 0 rfl ?_
  refine z_bipush (v := (10 : Int32)) C dL_years_188 (by decide) ?_
  refine z_iconst (v := (1 : Int32)) C dL_years_190 (by decide) ?_
  refine z_iconst (v := (0 : Int32)) C dL_years_191 (by decide) ?_
  obtain ⟨t9, q9, hr⟩ := hr
  have q9 : m_X7_carriedAt 130 (1 : Int32) t8 = some (.inr 1, t9) := q9
  refine z_lS C 4 [.ref (ad 0), .int (10 : Int32), .int (1 : Int32), .int (0 : Int32)] [] (zBud_r hB) (cL_act_carriedAt_x1 (zC_I C) (zC_st C) q9) (gc gq_L_act) (by decide +kernel) rfl dL_years_192 rfl ⟨Nat.le_of_ble_eq_true rfl, Nat.le_of_ble_eq_true rfl⟩ rfl (Nat.le_of_ble_eq_true rfl) ?_
  have C := zCT_p C (zBud_r hB); have hQ := hp _ hQ; have hB := zBud_p hB
  refine z_bipush (v := (-71 : Int32)) C dL_years_195 (by decide) ?_
  refine z_icmp_ne (tgt := 308) C dL_years_197 (by decide) (fun c => absurd (by decide) c) (fun _ => ?_)
  have hr : t9 = s9 := hr
  subst hr
  exact kk _ C hQ hB
set_option maxRecDepth 100000 in
set_option maxHeartbeats 4000000 in
theorem wL_years_2 {h : zH} {ad : Nat → Nat} {G : zG} (C : zCT [] h ad zLX 2 G cL_years RL wq_years 11 241) {QQ : zG → Prop} (hp : ∀ G, QQ G → QQ (zGp G)) (hq : ∀ G, QQ G → QQ (zGa G 180 1080)) (hQ : QQ G) {f : Nat} (hB : zBud G (f + 0)) {s s9 : zS} (hr : zRun sc_years_2 s s9) (kk : ∀ G, zCT [] h ad zLX 2 G cL_years RL wq_years 11 241 → QQ G → zBud G f → zV h ad zLX 2 G s9 286 [(0, .ref (ad 0))] []) : zV h ad zLX 2 G s 200 [(0, .ref (ad 0))] [] := by
  refine z_aload_n C dL_years_200 rfl 0 rfl ?_
  refine z_iconst (v := (2 : Int32)) C dL_years_201 (by decide) ?_
  obtain ⟨t1, q1, hr⟩ := hr
  have q1 : m_X7_value 130 (2 : Int32) s = some (.inl (25 : Int32), t1) := q1
  refine z_cV (vd := false) (Cn := RX7) (k := 0) C 1 [.int (2 : Int32)] [] (c_X7_value (zC_I C) (zC_st C) q1) (gc gq_value) (by decide +kernel) kX0 vc7 rfl rfl dL_years_202 rfl ⟨Nat.le_of_ble_eq_true rfl, Nat.le_of_ble_eq_true rfl⟩ rfl (Nat.le_of_ble_eq_true rfl) ?_
  refine z_bipush (v := (25 : Int32)) C dL_years_205 (by decide) ?_
  refine z_icmp_ne (tgt := 308) C dL_years_207 (by decide) (fun c => absurd (by decide) c) (fun _ => ?_)
  refine z_aload_n C dL_years_210 rfl 0 rfl ?_
  refine z_iconst (v := (0 : Int32)) C dL_years_211 (by decide) ?_
  refine z_bipush (v := (20 : Int32)) C dL_years_212 (by decide) ?_
  obtain ⟨t2, q2, hr⟩ := hr
  have q2 : m_X7_answer 130 (0 : Int32) (20 : Int32) t1 = some (.inl (40 : Int32), t2) := q2
  refine z_cV (vd := false) (Cn := RX7) (k := 0) C 2 [.int (0 : Int32), .int (20 : Int32)] [] (c_X7_answer (zC_I C) (zC_st C) q2) (gc gq_answer) (by decide +kernel) kX0 vc7 rfl rfl dL_years_214 rfl ⟨Nat.le_of_ble_eq_true rfl, Nat.le_of_ble_eq_true rfl⟩ rfl (Nat.le_of_ble_eq_true rfl) ?_
  refine z_bipush (v := (40 : Int32)) C dL_years_217 (by decide) ?_
  refine z_icmp_ne (tgt := 308) C dL_years_219 (by decide) (fun c => absurd (by decide) c) (fun _ => ?_)
  refine z_aload_n C dL_years_222 rfl 0 rfl ?_
  obtain ⟨t3, q3, hr⟩ := hr
  have q3 : m_X7_closeYear 130 t2 = some ((25 : Int32), t3) := zNl_of q3
  refine z_cV (vd := false) (Cn := RX7) (k := 0) C 0 [] [] (c_X7_closeYear (zC_I C) (zC_st C) q3) (gc gq_closeYear) (by decide +kernel) kX0 vc7 rfl rfl dL_years_223 rfl ⟨Nat.le_of_ble_eq_true rfl, Nat.le_of_ble_eq_true rfl⟩ rfl (Nat.le_of_ble_eq_true rfl) ?_
  refine z_bipush (v := (25 : Int32)) C dL_years_226 (by decide) ?_
  refine z_icmp_ne (tgt := 308) C dL_years_228 (by decide) (fun c => absurd (by decide) c) (fun _ => ?_)
  refine z_aload_n C dL_years_231 rfl 0 rfl ?_
  obtain ⟨t4, q4, hr⟩ := hr
  have q4 : m_X7_carried 130 t3 = some ((0 : Int32), t4) := zNl_of q4
  refine z_cV (vd := false) (Cn := RX7) (k := 0) C 0 [] [] (c_X7_carried (zC_I C) (zC_st C) q4) (gc gq_carried) (by decide +kernel) kX0 vc7 rfl rfl dL_years_232 rfl ⟨Nat.le_of_ble_eq_true rfl, Nat.le_of_ble_eq_true rfl⟩ rfl (Nat.le_of_ble_eq_true rfl) ?_
  refine z_if_ne (tgt := 308) C dL_years_235 (by decide) (fun c => absurd (by decide) c) (fun _ => ?_)
  refine z_aload_n C dL_years_238 rfl 0 rfl ?_
  obtain ⟨t5, q5, hr⟩ := hr
  have q5 : m_X7_year 130 t4 = some ((2 : Int32), t5) := zNl_of q5
  refine z_cV (vd := false) (Cn := RX7) (k := 0) C 0 [] [] (c_X7_year (zC_I C) (zC_st C) q5) (gc gq_year) (by decide +kernel) kX0 vc7 rfl rfl dL_years_239 rfl ⟨Nat.le_of_ble_eq_true rfl, Nat.le_of_ble_eq_true rfl⟩ rfl (Nat.le_of_ble_eq_true rfl) ?_
  refine z_iconst (v := (2 : Int32)) C dL_years_242 (by decide) ?_
  refine z_icmp_ne (tgt := 308) C dL_years_243 (by decide) (fun c => absurd (by decide) c) (fun _ => ?_)
  refine z_aload_n C dL_years_246 rfl 0 rfl ?_
  refine z_iconst (v := (1 : Int32)) C dL_years_247 (by decide) ?_
  obtain ⟨t6, q6, hr⟩ := hr
  have q6 : m_X7_value 130 (1 : Int32) t5 = some (.inl (0 : Int32), t6) := q6
  refine z_cV (vd := false) (Cn := RX7) (k := 0) C 1 [.int (1 : Int32)] [] (c_X7_value (zC_I C) (zC_st C) q6) (gc gq_value) (by decide +kernel) kX0 vc7 rfl rfl dL_years_248 rfl ⟨Nat.le_of_ble_eq_true rfl, Nat.le_of_ble_eq_true rfl⟩ rfl (Nat.le_of_ble_eq_true rfl) ?_
  refine z_if_ne (tgt := 308) C dL_years_251 (by decide) (fun c => absurd (by decide) c) (fun _ => ?_)
  refine z_aload_n C dL_years_254 rfl 0 rfl ?_
  refine z_bipush (v := (7 : Int32)) C dL_years_255 (by decide) ?_
  refine z_iconst (v := (2 : Int32)) C dL_years_257 (by decide) ?_
  obtain ⟨t7, q7, hr⟩ := hr
  have q7 : m_X7_carry 130 (7 : Int32) (2 : Int32) t6 = some (.inl (7 : Int32), t7) := q7
  refine z_cV (vd := false) (Cn := RX7) (k := 0) C 2 [.int (7 : Int32), .int (2 : Int32)] [] (c_X7_carry (zC_I C) (zC_st C) q7) (gc gq_carry) (by decide +kernel) kX0 vc7 rfl rfl dL_years_258 rfl ⟨Nat.le_of_ble_eq_true rfl, Nat.le_of_ble_eq_true rfl⟩ rfl (Nat.le_of_ble_eq_true rfl) ?_
  refine z_bipush (v := (7 : Int32)) C dL_years_261 (by decide) ?_
  refine z_icmp_ne (tgt := 308) C dL_years_263 (by decide) (fun c => absurd (by decide) c) (fun _ => ?_)
  refine z_aload_n C dL_years_266 rfl 0 rfl ?_
  refine z_iconst (v := (0 : Int32)) C dL_years_267 (by decide) ?_
  refine z_iconst (v := (3 : Int32)) C dL_years_268 (by decide) ?_
  obtain ⟨t8, q8, hr⟩ := hr
  have q8 : m_X7_answer 130 (0 : Int32) (3 : Int32) t7 = some (.inl (20 : Int32), t8) := q8
  refine z_cV (vd := false) (Cn := RX7) (k := 0) C 2 [.int (0 : Int32), .int (3 : Int32)] [] (c_X7_answer (zC_I C) (zC_st C) q8) (gc gq_answer) (by decide +kernel) kX0 vc7 rfl rfl dL_years_269 rfl ⟨Nat.le_of_ble_eq_true rfl, Nat.le_of_ble_eq_true rfl⟩ rfl (Nat.le_of_ble_eq_true rfl) ?_
  refine z_bipush (v := (20 : Int32)) C dL_years_272 (by decide) ?_
  refine z_icmp_ne (tgt := 308) C dL_years_274 (by decide) (fun c => absurd (by decide) c) (fun _ => ?_)
  refine z_aload_n C dL_years_277 rfl 0 rfl ?_
  obtain ⟨t9, q9, hr⟩ := hr
  have q9 : m_X7_closeYear 130 t8 = some ((6 : Int32), t9) := zNl_of q9
  refine z_cV (vd := false) (Cn := RX7) (k := 0) C 0 [] [] (c_X7_closeYear (zC_I C) (zC_st C) q9) (gc gq_closeYear) (by decide +kernel) kX0 vc7 rfl rfl dL_years_278 rfl ⟨Nat.le_of_ble_eq_true rfl, Nat.le_of_ble_eq_true rfl⟩ rfl (Nat.le_of_ble_eq_true rfl) ?_
  refine z_bipush (v := (6 : Int32)) C dL_years_281 (by decide) ?_
  refine z_icmp_ne (tgt := 308) C dL_years_283 (by decide) (fun c => absurd (by decide) c) (fun _ => ?_)
  have hr : t9 = s9 := hr
  subst hr
  exact kk _ C hQ hB
set_option maxRecDepth 100000 in
set_option maxHeartbeats 4000000 in
theorem wL_years_3 {h : zH} {ad : Nat → Nat} {G : zG} (C : zCT [] h ad zLX 2 G cL_years RL wq_years 11 241) {QQ : zG → Prop} (hp : ∀ G, QQ G → QQ (zGp G)) (hq : ∀ G, QQ G → QQ (zGa G 180 1080)) (hQ : QQ G) {f : Nat} (hB : zBud G (f + 0)) {s s9 : zS} (hr : zRun sc_years_3 s s9) (kk : ∀ G, zCT [] h ad zLX 2 G cL_years RL wq_years 11 241 → QQ G → zBud G f → zV h ad zLX 2 G s9 301 [(0, .ref (ad 0))] []) : zV h ad zLX 2 G s 286 [(0, .ref (ad 0))] [] := by
  refine z_aload_n C dL_years_286 rfl 0 rfl ?_
  obtain ⟨t1, q1, hr⟩ := hr
  have q1 : m_X7_carried 130 s = some ((0 : Int32), t1) := zNl_of q1
  refine z_cV (vd := false) (Cn := RX7) (k := 0) C 0 [] [] (c_X7_carried (zC_I C) (zC_st C) q1) (gc gq_carried) (by decide +kernel) kX0 vc7 rfl rfl dL_years_287 rfl ⟨Nat.le_of_ble_eq_true rfl, Nat.le_of_ble_eq_true rfl⟩ rfl (Nat.le_of_ble_eq_true rfl) ?_
  refine z_if_ne (tgt := 308) C dL_years_290 (by decide) (fun c => absurd (by decide) c) (fun _ => ?_)
  refine z_aload_n C dL_years_293 rfl 0 rfl ?_
  obtain ⟨t2, q2, hr⟩ := hr
  have q2 : m_X7_year 130 t1 = some ((3 : Int32), t2) := zNl_of q2
  refine z_cV (vd := false) (Cn := RX7) (k := 0) C 0 [] [] (c_X7_year (zC_I C) (zC_st C) q2) (gc gq_year) (by decide +kernel) kX0 vc7 rfl rfl dL_years_294 rfl ⟨Nat.le_of_ble_eq_true rfl, Nat.le_of_ble_eq_true rfl⟩ rfl (Nat.le_of_ble_eq_true rfl) ?_
  refine z_iconst (v := (3 : Int32)) C dL_years_297 (by decide) ?_
  refine z_icmp_ne (tgt := 308) C dL_years_298 (by decide) (fun c => absurd (by decide) c) (fun _ => ?_)
  have hr : t2 = s9 := hr
  subst hr
  exact kk _ C hQ hB
set_option maxRecDepth 100000 in
set_option maxHeartbeats 4000000 in
theorem wL_years_4 {h : zH} {ad : Nat → Nat} {G : zG} (C : zCT [] h ad zLX 2 G cL_years RL wq_years 11 241) {QQ : zG → Prop} (hp : ∀ G, QQ G → QQ (zGp G)) (hq : ∀ G, QQ G → QQ (zGa G 180 1080)) (hQ : QQ G) {f : Nat} (hB : zBud G (f + 180)) {s s9 : zS} (hr : zRun sc_years_4 s s9) (kk : ∀ G, zCT [] h ad zLX 2 G cL_years RL wq_years 11 241 → QQ G → zBud G f → zV h ad zLX 2 G s9 310 [(0, .ref (ad 0))] []) : zV h ad zLX 2 G s 301 [(0, .ref (ad 0))] [] := by
  refine z_aload_n C dL_years_301 rfl 0 rfl ?_
  refine z_lK (f := f) (mc := 180) (ms := 1080) C 1 [.ref (ad 0)] [] hB rfl (coL_refuses (zC_I C) (zC_st C) (by decide) (by decide) hr) (gc gq_L_refuses) (by decide +kernel) rfl dL_years_302 rfl ⟨Nat.le_of_ble_eq_true rfl, Nat.le_of_ble_eq_true rfl⟩ rfl (Nat.le_of_ble_eq_true rfl) ?_
  have C := zCT_a C (zBud_le hB (Nat.le_add_left _ _)) (Nat.le_refl 1080); have hQ := hq _ hQ; have hB := zBud_a hB
  refine z_if_ne (tgt := 310) C dL_years_305 (by decide) (fun _ => ?_) (fun c => absurd c (by decide))
  exact kk _ C hQ hB
set_option maxRecDepth 100000 in
set_option maxHeartbeats 4000000 in
theorem wL_years_5 {h : zH} {ad : Nat → Nat} {G : zG} (C : zCT [] h ad zLX 2 G cL_years RL wq_years 11 241) {QQ : zG → Prop} (hp : ∀ G, QQ G → QQ (zGp G)) (hq : ∀ G, QQ G → QQ (zGa G 180 1080)) (hQ : QQ G) {f : Nat} (hB : zBud G (f + 9)) {s s9 : zS} (hr : zRun sc_years_5 s s9) (kk : ∀ G, zCT [] h ad zLX 2 G cL_years RL wq_years 11 241 → QQ G → zBud G f → zV h ad zLX 2 G s9 358 [(1, .int (9 : Int32)), (0, .ref (ad 0))] []) : zV h ad zLX 2 G s 310 [(0, .ref (ad 0))] [] := by
  refine z_iconst (v := (0 : Int32)) C dL_years_310 (by decide) ?_
  refine z_istore_n (y := (0 : Int32)) (lv' := [(1, .int (0 : Int32)), (0, .ref (ad 0))]) C dL_years_311 rfl (by decide) rfl rfl ?_
  refine z_iload_n C dL_years_312 rfl 0 rfl ?_
  refine z_bipush (v := (9 : Int32)) C dL_years_313 (by decide) ?_
  refine z_icmp_ge (tgt := 358) C dL_years_315 (by decide) (fun c => absurd c (by decide)) (fun _ => ?_)
  refine z_aload_n C dL_years_318 rfl 1 rfl ?_
  refine z_bipush (v := (9 : Int32)) C dL_years_319 (by decide) ?_
  refine z_bipush (v := (10 : Int32)) C dL_years_321 (by decide) ?_
  refine z_iconst (v := (3 : Int32)) C dL_years_323 (by decide) ?_
  refine z_iload_n C dL_years_324 rfl 0 rfl ?_
  refine z_iadd C dL_years_325 ?_
  refine z_top (y := (3 : Int32)) (by decide) ?_
  obtain ⟨t1, q1, hr⟩ := hr
  have q1 : m_X7_carry 130 (10 : Int32) (3 : Int32) s = some (.inl (10 : Int32), t1) := q1
  refine z_lS C 4 [.ref (ad 0), .int (9 : Int32), .int (10 : Int32), .int (3 : Int32)] [] (zBud_r hB) (cL_act_carry_v (zC_I C) (zC_st C) q1) (gc gq_L_act) (by decide +kernel) rfl dL_years_326 rfl ⟨Nat.le_of_ble_eq_true rfl, Nat.le_of_ble_eq_true rfl⟩ rfl (Nat.le_of_ble_eq_true rfl) ?_
  have C := zCT_p C (zBud_r hB); have hQ := hp _ hQ; have hB := zBud_p hB
  refine z_iload_n C dL_years_329 rfl 0 rfl ?_
  refine z_bipush (v := (8 : Int32)) C dL_years_330 (by decide) ?_
  refine z_icmp_ge (tgt := 345) C dL_years_332 (by decide) (fun c => absurd c (by decide)) (fun _ => ?_)
  refine z_bipush (v := (10 : Int32)) C dL_years_335 (by decide) ?_
  refine z_iload_n C dL_years_337 rfl 0 rfl ?_
  refine z_imul C dL_years_338 ?_
  refine z_top (y := (0 : Int32)) (by decide) ?_
  refine z_bipush (v := (10 : Int32)) C dL_years_339 (by decide) ?_
  refine z_iadd C dL_years_341 ?_
  refine z_top (y := (10 : Int32)) (by decide) ?_
  refine z_goto (tgt := 347) C dL_years_342 (by decide) ?_
  refine z_icmp_eq (tgt := 352) C dL_years_347 (by decide) (fun _ => ?_) (fun c => absurd (by decide) c)
  refine z_iinc (j := 0) (v := (1 : Int32)) (d := (1 : Int32)) (lv' := [(1, .int (1 : Int32)), (0, .ref (ad 0))]) C dL_years_352 rfl (by decide) (by decide) (by decide) rfl ?_
  refine z_goto (tgt := 312) C dL_years_355 (by decide) ?_
  refine z_iload_n C dL_years_312 rfl 0 rfl ?_
  refine z_bipush (v := (9 : Int32)) C dL_years_313 (by decide) ?_
  refine z_icmp_ge (tgt := 358) C dL_years_315 (by decide) (fun c => absurd c (by decide)) (fun _ => ?_)
  refine z_aload_n C dL_years_318 rfl 1 rfl ?_
  refine z_bipush (v := (9 : Int32)) C dL_years_319 (by decide) ?_
  refine z_bipush (v := (10 : Int32)) C dL_years_321 (by decide) ?_
  refine z_iconst (v := (3 : Int32)) C dL_years_323 (by decide) ?_
  refine z_iload_n C dL_years_324 rfl 0 rfl ?_
  refine z_iadd C dL_years_325 ?_
  refine z_top (y := (4 : Int32)) (by decide) ?_
  obtain ⟨t2, q2, hr⟩ := hr
  have q2 : m_X7_carry 130 (10 : Int32) (4 : Int32) t1 = some (.inl (20 : Int32), t2) := q2
  refine z_lS C 4 [.ref (ad 0), .int (9 : Int32), .int (10 : Int32), .int (4 : Int32)] [] (zBud_r hB) (cL_act_carry_v (zC_I C) (zC_st C) q2) (gc gq_L_act) (by decide +kernel) rfl dL_years_326 rfl ⟨Nat.le_of_ble_eq_true rfl, Nat.le_of_ble_eq_true rfl⟩ rfl (Nat.le_of_ble_eq_true rfl) ?_
  have C := zCT_p C (zBud_r hB); have hQ := hp _ hQ; have hB := zBud_p hB
  refine z_iload_n C dL_years_329 rfl 0 rfl ?_
  refine z_bipush (v := (8 : Int32)) C dL_years_330 (by decide) ?_
  refine z_icmp_ge (tgt := 345) C dL_years_332 (by decide) (fun c => absurd c (by decide)) (fun _ => ?_)
  refine z_bipush (v := (10 : Int32)) C dL_years_335 (by decide) ?_
  refine z_iload_n C dL_years_337 rfl 0 rfl ?_
  refine z_imul C dL_years_338 ?_
  refine z_top (y := (10 : Int32)) (by decide) ?_
  refine z_bipush (v := (10 : Int32)) C dL_years_339 (by decide) ?_
  refine z_iadd C dL_years_341 ?_
  refine z_top (y := (20 : Int32)) (by decide) ?_
  refine z_goto (tgt := 347) C dL_years_342 (by decide) ?_
  refine z_icmp_eq (tgt := 352) C dL_years_347 (by decide) (fun _ => ?_) (fun c => absurd (by decide) c)
  refine z_iinc (j := 0) (v := (2 : Int32)) (d := (1 : Int32)) (lv' := [(1, .int (2 : Int32)), (0, .ref (ad 0))]) C dL_years_352 rfl (by decide) (by decide) (by decide) rfl ?_
  refine z_goto (tgt := 312) C dL_years_355 (by decide) ?_
  refine z_iload_n C dL_years_312 rfl 0 rfl ?_
  refine z_bipush (v := (9 : Int32)) C dL_years_313 (by decide) ?_
  refine z_icmp_ge (tgt := 358) C dL_years_315 (by decide) (fun c => absurd c (by decide)) (fun _ => ?_)
  refine z_aload_n C dL_years_318 rfl 1 rfl ?_
  refine z_bipush (v := (9 : Int32)) C dL_years_319 (by decide) ?_
  refine z_bipush (v := (10 : Int32)) C dL_years_321 (by decide) ?_
  refine z_iconst (v := (3 : Int32)) C dL_years_323 (by decide) ?_
  refine z_iload_n C dL_years_324 rfl 0 rfl ?_
  refine z_iadd C dL_years_325 ?_
  refine z_top (y := (5 : Int32)) (by decide) ?_
  obtain ⟨t3, q3, hr⟩ := hr
  have q3 : m_X7_carry 130 (10 : Int32) (5 : Int32) t2 = some (.inl (30 : Int32), t3) := q3
  refine z_lS C 4 [.ref (ad 0), .int (9 : Int32), .int (10 : Int32), .int (5 : Int32)] [] (zBud_r hB) (cL_act_carry_v (zC_I C) (zC_st C) q3) (gc gq_L_act) (by decide +kernel) rfl dL_years_326 rfl ⟨Nat.le_of_ble_eq_true rfl, Nat.le_of_ble_eq_true rfl⟩ rfl (Nat.le_of_ble_eq_true rfl) ?_
  have C := zCT_p C (zBud_r hB); have hQ := hp _ hQ; have hB := zBud_p hB
  refine z_iload_n C dL_years_329 rfl 0 rfl ?_
  refine z_bipush (v := (8 : Int32)) C dL_years_330 (by decide) ?_
  refine z_icmp_ge (tgt := 345) C dL_years_332 (by decide) (fun c => absurd c (by decide)) (fun _ => ?_)
  refine z_bipush (v := (10 : Int32)) C dL_years_335 (by decide) ?_
  refine z_iload_n C dL_years_337 rfl 0 rfl ?_
  refine z_imul C dL_years_338 ?_
  refine z_top (y := (20 : Int32)) (by decide) ?_
  refine z_bipush (v := (10 : Int32)) C dL_years_339 (by decide) ?_
  refine z_iadd C dL_years_341 ?_
  refine z_top (y := (30 : Int32)) (by decide) ?_
  refine z_goto (tgt := 347) C dL_years_342 (by decide) ?_
  refine z_icmp_eq (tgt := 352) C dL_years_347 (by decide) (fun _ => ?_) (fun c => absurd (by decide) c)
  refine z_iinc (j := 0) (v := (3 : Int32)) (d := (1 : Int32)) (lv' := [(1, .int (3 : Int32)), (0, .ref (ad 0))]) C dL_years_352 rfl (by decide) (by decide) (by decide) rfl ?_
  refine z_goto (tgt := 312) C dL_years_355 (by decide) ?_
  refine z_iload_n C dL_years_312 rfl 0 rfl ?_
  refine z_bipush (v := (9 : Int32)) C dL_years_313 (by decide) ?_
  refine z_icmp_ge (tgt := 358) C dL_years_315 (by decide) (fun c => absurd c (by decide)) (fun _ => ?_)
  refine z_aload_n C dL_years_318 rfl 1 rfl ?_
  refine z_bipush (v := (9 : Int32)) C dL_years_319 (by decide) ?_
  refine z_bipush (v := (10 : Int32)) C dL_years_321 (by decide) ?_
  refine z_iconst (v := (3 : Int32)) C dL_years_323 (by decide) ?_
  refine z_iload_n C dL_years_324 rfl 0 rfl ?_
  refine z_iadd C dL_years_325 ?_
  refine z_top (y := (6 : Int32)) (by decide) ?_
  obtain ⟨t4, q4, hr⟩ := hr
  have q4 : m_X7_carry 130 (10 : Int32) (6 : Int32) t3 = some (.inl (40 : Int32), t4) := q4
  refine z_lS C 4 [.ref (ad 0), .int (9 : Int32), .int (10 : Int32), .int (6 : Int32)] [] (zBud_r hB) (cL_act_carry_v (zC_I C) (zC_st C) q4) (gc gq_L_act) (by decide +kernel) rfl dL_years_326 rfl ⟨Nat.le_of_ble_eq_true rfl, Nat.le_of_ble_eq_true rfl⟩ rfl (Nat.le_of_ble_eq_true rfl) ?_
  have C := zCT_p C (zBud_r hB); have hQ := hp _ hQ; have hB := zBud_p hB
  refine z_iload_n C dL_years_329 rfl 0 rfl ?_
  refine z_bipush (v := (8 : Int32)) C dL_years_330 (by decide) ?_
  refine z_icmp_ge (tgt := 345) C dL_years_332 (by decide) (fun c => absurd c (by decide)) (fun _ => ?_)
  refine z_bipush (v := (10 : Int32)) C dL_years_335 (by decide) ?_
  refine z_iload_n C dL_years_337 rfl 0 rfl ?_
  refine z_imul C dL_years_338 ?_
  refine z_top (y := (30 : Int32)) (by decide) ?_
  refine z_bipush (v := (10 : Int32)) C dL_years_339 (by decide) ?_
  refine z_iadd C dL_years_341 ?_
  refine z_top (y := (40 : Int32)) (by decide) ?_
  refine z_goto (tgt := 347) C dL_years_342 (by decide) ?_
  refine z_icmp_eq (tgt := 352) C dL_years_347 (by decide) (fun _ => ?_) (fun c => absurd (by decide) c)
  refine z_iinc (j := 0) (v := (4 : Int32)) (d := (1 : Int32)) (lv' := [(1, .int (4 : Int32)), (0, .ref (ad 0))]) C dL_years_352 rfl (by decide) (by decide) (by decide) rfl ?_
  refine z_goto (tgt := 312) C dL_years_355 (by decide) ?_
  refine z_iload_n C dL_years_312 rfl 0 rfl ?_
  refine z_bipush (v := (9 : Int32)) C dL_years_313 (by decide) ?_
  refine z_icmp_ge (tgt := 358) C dL_years_315 (by decide) (fun c => absurd c (by decide)) (fun _ => ?_)
  refine z_aload_n C dL_years_318 rfl 1 rfl ?_
  refine z_bipush (v := (9 : Int32)) C dL_years_319 (by decide) ?_
  refine z_bipush (v := (10 : Int32)) C dL_years_321 (by decide) ?_
  refine z_iconst (v := (3 : Int32)) C dL_years_323 (by decide) ?_
  refine z_iload_n C dL_years_324 rfl 0 rfl ?_
  refine z_iadd C dL_years_325 ?_
  refine z_top (y := (7 : Int32)) (by decide) ?_
  obtain ⟨t5, q5, hr⟩ := hr
  have q5 : m_X7_carry 130 (10 : Int32) (7 : Int32) t4 = some (.inl (50 : Int32), t5) := q5
  refine z_lS C 4 [.ref (ad 0), .int (9 : Int32), .int (10 : Int32), .int (7 : Int32)] [] (zBud_r hB) (cL_act_carry_v (zC_I C) (zC_st C) q5) (gc gq_L_act) (by decide +kernel) rfl dL_years_326 rfl ⟨Nat.le_of_ble_eq_true rfl, Nat.le_of_ble_eq_true rfl⟩ rfl (Nat.le_of_ble_eq_true rfl) ?_
  have C := zCT_p C (zBud_r hB); have hQ := hp _ hQ; have hB := zBud_p hB
  refine z_iload_n C dL_years_329 rfl 0 rfl ?_
  refine z_bipush (v := (8 : Int32)) C dL_years_330 (by decide) ?_
  refine z_icmp_ge (tgt := 345) C dL_years_332 (by decide) (fun c => absurd c (by decide)) (fun _ => ?_)
  refine z_bipush (v := (10 : Int32)) C dL_years_335 (by decide) ?_
  refine z_iload_n C dL_years_337 rfl 0 rfl ?_
  refine z_imul C dL_years_338 ?_
  refine z_top (y := (40 : Int32)) (by decide) ?_
  refine z_bipush (v := (10 : Int32)) C dL_years_339 (by decide) ?_
  refine z_iadd C dL_years_341 ?_
  refine z_top (y := (50 : Int32)) (by decide) ?_
  refine z_goto (tgt := 347) C dL_years_342 (by decide) ?_
  refine z_icmp_eq (tgt := 352) C dL_years_347 (by decide) (fun _ => ?_) (fun c => absurd (by decide) c)
  refine z_iinc (j := 0) (v := (5 : Int32)) (d := (1 : Int32)) (lv' := [(1, .int (5 : Int32)), (0, .ref (ad 0))]) C dL_years_352 rfl (by decide) (by decide) (by decide) rfl ?_
  refine z_goto (tgt := 312) C dL_years_355 (by decide) ?_
  refine z_iload_n C dL_years_312 rfl 0 rfl ?_
  refine z_bipush (v := (9 : Int32)) C dL_years_313 (by decide) ?_
  refine z_icmp_ge (tgt := 358) C dL_years_315 (by decide) (fun c => absurd c (by decide)) (fun _ => ?_)
  refine z_aload_n C dL_years_318 rfl 1 rfl ?_
  refine z_bipush (v := (9 : Int32)) C dL_years_319 (by decide) ?_
  refine z_bipush (v := (10 : Int32)) C dL_years_321 (by decide) ?_
  refine z_iconst (v := (3 : Int32)) C dL_years_323 (by decide) ?_
  refine z_iload_n C dL_years_324 rfl 0 rfl ?_
  refine z_iadd C dL_years_325 ?_
  refine z_top (y := (8 : Int32)) (by decide) ?_
  obtain ⟨t6, q6, hr⟩ := hr
  have q6 : m_X7_carry 130 (10 : Int32) (8 : Int32) t5 = some (.inl (60 : Int32), t6) := q6
  refine z_lS C 4 [.ref (ad 0), .int (9 : Int32), .int (10 : Int32), .int (8 : Int32)] [] (zBud_r hB) (cL_act_carry_v (zC_I C) (zC_st C) q6) (gc gq_L_act) (by decide +kernel) rfl dL_years_326 rfl ⟨Nat.le_of_ble_eq_true rfl, Nat.le_of_ble_eq_true rfl⟩ rfl (Nat.le_of_ble_eq_true rfl) ?_
  have C := zCT_p C (zBud_r hB); have hQ := hp _ hQ; have hB := zBud_p hB
  refine z_iload_n C dL_years_329 rfl 0 rfl ?_
  refine z_bipush (v := (8 : Int32)) C dL_years_330 (by decide) ?_
  refine z_icmp_ge (tgt := 345) C dL_years_332 (by decide) (fun c => absurd c (by decide)) (fun _ => ?_)
  refine z_bipush (v := (10 : Int32)) C dL_years_335 (by decide) ?_
  refine z_iload_n C dL_years_337 rfl 0 rfl ?_
  refine z_imul C dL_years_338 ?_
  refine z_top (y := (50 : Int32)) (by decide) ?_
  refine z_bipush (v := (10 : Int32)) C dL_years_339 (by decide) ?_
  refine z_iadd C dL_years_341 ?_
  refine z_top (y := (60 : Int32)) (by decide) ?_
  refine z_goto (tgt := 347) C dL_years_342 (by decide) ?_
  refine z_icmp_eq (tgt := 352) C dL_years_347 (by decide) (fun _ => ?_) (fun c => absurd (by decide) c)
  refine z_iinc (j := 0) (v := (6 : Int32)) (d := (1 : Int32)) (lv' := [(1, .int (6 : Int32)), (0, .ref (ad 0))]) C dL_years_352 rfl (by decide) (by decide) (by decide) rfl ?_
  refine z_goto (tgt := 312) C dL_years_355 (by decide) ?_
  refine z_iload_n C dL_years_312 rfl 0 rfl ?_
  refine z_bipush (v := (9 : Int32)) C dL_years_313 (by decide) ?_
  refine z_icmp_ge (tgt := 358) C dL_years_315 (by decide) (fun c => absurd c (by decide)) (fun _ => ?_)
  refine z_aload_n C dL_years_318 rfl 1 rfl ?_
  refine z_bipush (v := (9 : Int32)) C dL_years_319 (by decide) ?_
  refine z_bipush (v := (10 : Int32)) C dL_years_321 (by decide) ?_
  refine z_iconst (v := (3 : Int32)) C dL_years_323 (by decide) ?_
  refine z_iload_n C dL_years_324 rfl 0 rfl ?_
  refine z_iadd C dL_years_325 ?_
  refine z_top (y := (9 : Int32)) (by decide) ?_
  obtain ⟨t7, q7, hr⟩ := hr
  have q7 : m_X7_carry 130 (10 : Int32) (9 : Int32) t6 = some (.inl (70 : Int32), t7) := q7
  refine z_lS C 4 [.ref (ad 0), .int (9 : Int32), .int (10 : Int32), .int (9 : Int32)] [] (zBud_r hB) (cL_act_carry_v (zC_I C) (zC_st C) q7) (gc gq_L_act) (by decide +kernel) rfl dL_years_326 rfl ⟨Nat.le_of_ble_eq_true rfl, Nat.le_of_ble_eq_true rfl⟩ rfl (Nat.le_of_ble_eq_true rfl) ?_
  have C := zCT_p C (zBud_r hB); have hQ := hp _ hQ; have hB := zBud_p hB
  refine z_iload_n C dL_years_329 rfl 0 rfl ?_
  refine z_bipush (v := (8 : Int32)) C dL_years_330 (by decide) ?_
  refine z_icmp_ge (tgt := 345) C dL_years_332 (by decide) (fun c => absurd c (by decide)) (fun _ => ?_)
  refine z_bipush (v := (10 : Int32)) C dL_years_335 (by decide) ?_
  refine z_iload_n C dL_years_337 rfl 0 rfl ?_
  refine z_imul C dL_years_338 ?_
  refine z_top (y := (60 : Int32)) (by decide) ?_
  refine z_bipush (v := (10 : Int32)) C dL_years_339 (by decide) ?_
  refine z_iadd C dL_years_341 ?_
  refine z_top (y := (70 : Int32)) (by decide) ?_
  refine z_goto (tgt := 347) C dL_years_342 (by decide) ?_
  refine z_icmp_eq (tgt := 352) C dL_years_347 (by decide) (fun _ => ?_) (fun c => absurd (by decide) c)
  refine z_iinc (j := 0) (v := (7 : Int32)) (d := (1 : Int32)) (lv' := [(1, .int (7 : Int32)), (0, .ref (ad 0))]) C dL_years_352 rfl (by decide) (by decide) (by decide) rfl ?_
  refine z_goto (tgt := 312) C dL_years_355 (by decide) ?_
  refine z_iload_n C dL_years_312 rfl 0 rfl ?_
  refine z_bipush (v := (9 : Int32)) C dL_years_313 (by decide) ?_
  refine z_icmp_ge (tgt := 358) C dL_years_315 (by decide) (fun c => absurd c (by decide)) (fun _ => ?_)
  refine z_aload_n C dL_years_318 rfl 1 rfl ?_
  refine z_bipush (v := (9 : Int32)) C dL_years_319 (by decide) ?_
  refine z_bipush (v := (10 : Int32)) C dL_years_321 (by decide) ?_
  refine z_iconst (v := (3 : Int32)) C dL_years_323 (by decide) ?_
  refine z_iload_n C dL_years_324 rfl 0 rfl ?_
  refine z_iadd C dL_years_325 ?_
  refine z_top (y := (10 : Int32)) (by decide) ?_
  obtain ⟨t8, q8, hr⟩ := hr
  have q8 : m_X7_carry 130 (10 : Int32) (10 : Int32) t7 = some (.inl (80 : Int32), t8) := q8
  refine z_lS C 4 [.ref (ad 0), .int (9 : Int32), .int (10 : Int32), .int (10 : Int32)] [] (zBud_r hB) (cL_act_carry_v (zC_I C) (zC_st C) q8) (gc gq_L_act) (by decide +kernel) rfl dL_years_326 rfl ⟨Nat.le_of_ble_eq_true rfl, Nat.le_of_ble_eq_true rfl⟩ rfl (Nat.le_of_ble_eq_true rfl) ?_
  have C := zCT_p C (zBud_r hB); have hQ := hp _ hQ; have hB := zBud_p hB
  refine z_iload_n C dL_years_329 rfl 0 rfl ?_
  refine z_bipush (v := (8 : Int32)) C dL_years_330 (by decide) ?_
  refine z_icmp_ge (tgt := 345) C dL_years_332 (by decide) (fun c => absurd c (by decide)) (fun _ => ?_)
  refine z_bipush (v := (10 : Int32)) C dL_years_335 (by decide) ?_
  refine z_iload_n C dL_years_337 rfl 0 rfl ?_
  refine z_imul C dL_years_338 ?_
  refine z_top (y := (70 : Int32)) (by decide) ?_
  refine z_bipush (v := (10 : Int32)) C dL_years_339 (by decide) ?_
  refine z_iadd C dL_years_341 ?_
  refine z_top (y := (80 : Int32)) (by decide) ?_
  refine z_goto (tgt := 347) C dL_years_342 (by decide) ?_
  refine z_icmp_eq (tgt := 352) C dL_years_347 (by decide) (fun _ => ?_) (fun c => absurd (by decide) c)
  refine z_iinc (j := 0) (v := (8 : Int32)) (d := (1 : Int32)) (lv' := [(1, .int (8 : Int32)), (0, .ref (ad 0))]) C dL_years_352 rfl (by decide) (by decide) (by decide) rfl ?_
  refine z_goto (tgt := 312) C dL_years_355 (by decide) ?_
  refine z_iload_n C dL_years_312 rfl 0 rfl ?_
  refine z_bipush (v := (9 : Int32)) C dL_years_313 (by decide) ?_
  refine z_icmp_ge (tgt := 358) C dL_years_315 (by decide) (fun c => absurd c (by decide)) (fun _ => ?_)
  refine z_aload_n C dL_years_318 rfl 1 rfl ?_
  refine z_bipush (v := (9 : Int32)) C dL_years_319 (by decide) ?_
  refine z_bipush (v := (10 : Int32)) C dL_years_321 (by decide) ?_
  refine z_iconst (v := (3 : Int32)) C dL_years_323 (by decide) ?_
  refine z_iload_n C dL_years_324 rfl 0 rfl ?_
  refine z_iadd C dL_years_325 ?_
  refine z_top (y := (11 : Int32)) (by decide) ?_
  obtain ⟨t9, q9, hr⟩ := hr
  have q9 : m_X7_carry 130 (10 : Int32) (11 : Int32) t8 = some (.inr 3, t9) := q9
  refine z_lS C 4 [.ref (ad 0), .int (9 : Int32), .int (10 : Int32), .int (11 : Int32)] [] (zBud_r hB) (cL_act_carry_x3 (zC_I C) (zC_st C) q9) (gc gq_L_act) (by decide +kernel) rfl dL_years_326 rfl ⟨Nat.le_of_ble_eq_true rfl, Nat.le_of_ble_eq_true rfl⟩ rfl (Nat.le_of_ble_eq_true rfl) ?_
  have C := zCT_p C (zBud_r hB); have hQ := hp _ hQ; have hB := zBud_p hB
  refine z_iload_n C dL_years_329 rfl 0 rfl ?_
  refine z_bipush (v := (8 : Int32)) C dL_years_330 (by decide) ?_
  refine z_icmp_ge (tgt := 345) C dL_years_332 (by decide) (fun _ => ?_) (fun c => absurd (by decide) c)
  refine z_bipush (v := (-73 : Int32)) C dL_years_345 (by decide) ?_
  refine z_icmp_eq (tgt := 352) C dL_years_347 (by decide) (fun _ => ?_) (fun c => absurd (by decide) c)
  refine z_iinc (j := 0) (v := (9 : Int32)) (d := (1 : Int32)) (lv' := [(1, .int (9 : Int32)), (0, .ref (ad 0))]) C dL_years_352 rfl (by decide) (by decide) (by decide) rfl ?_
  refine z_goto (tgt := 312) C dL_years_355 (by decide) ?_
  refine z_iload_n C dL_years_312 rfl 0 rfl ?_
  refine z_bipush (v := (9 : Int32)) C dL_years_313 (by decide) ?_
  refine z_icmp_ge (tgt := 358) C dL_years_315 (by decide) (fun _ => ?_) (fun c => absurd (by decide) c)
  have hr : t9 = s9 := hr
  subst hr
  exact kk _ C hQ hB
set_option maxRecDepth 100000 in
set_option maxHeartbeats 4000000 in
theorem wL_years_6 {h : zH} {ad : Nat → Nat} {G : zG} (C : zCT [] h ad zLX 2 G cL_years RL wq_years 11 241) {QQ : zG → Prop} (hp : ∀ G, QQ G → QQ (zGp G)) (hq : ∀ G, QQ G → QQ (zGa G 180 1080)) (hQ : QQ G) {f : Nat} (hB : zBud G (f + 2)) {s s9 : zS} (hr : zRun sc_years_6 s s9) (kk : ∀ G, zCT [] h ad zLX 2 G cL_years RL wq_years 11 241 → QQ G → zBud G f → zV h ad zLX 2 G s9 456 [(1, .int (9 : Int32)), (0, .ref (ad 0))] []) : zV h ad zLX 2 G s 358 [(1, .int (9 : Int32)), (0, .ref (ad 0))] [] := by
  refine z_aload_n C dL_years_358 rfl 1 rfl ?_
  refine z_iconst (v := (0 : Int32)) C dL_years_359 (by decide) ?_
  obtain ⟨t1, q1, hr⟩ := hr
  have q1 : m_X7_bestSum 130 (0 : Int32) s = some (.inl (0 : Int32), t1) := q1
  refine z_cV (vd := false) (Cn := RX7) (k := 0) C 1 [.int (0 : Int32)] [] (c_X7_bestSum (zC_I C) (zC_st C) q1) (gc gq_bestSum) (by decide +kernel) kX0 vc7 rfl rfl dL_years_360 rfl ⟨Nat.le_of_ble_eq_true rfl, Nat.le_of_ble_eq_true rfl⟩ rfl (Nat.le_of_ble_eq_true rfl) ?_
  refine z_if_ne (tgt := 592) C dL_years_363 (by decide) (fun c => absurd (by decide) c) (fun _ => ?_)
  refine z_aload_n C dL_years_366 rfl 1 rfl ?_
  refine z_iconst (v := (0 : Int32)) C dL_years_367 (by decide) ?_
  obtain ⟨t2, q2, hr⟩ := hr
  have q2 : m_X7_afterCredits 130 (0 : Int32) t1 = some (.inl (3 : Int32), t2) := q2
  refine z_cV (vd := false) (Cn := RX7) (k := 0) C 1 [.int (0 : Int32)] [] (c_X7_afterCredits (zC_I C) (zC_st C) q2) (gc gq_afterCredits) (by decide +kernel) kX0 vc7 rfl rfl dL_years_368 rfl ⟨Nat.le_of_ble_eq_true rfl, Nat.le_of_ble_eq_true rfl⟩ rfl (Nat.le_of_ble_eq_true rfl) ?_
  refine z_iconst (v := (3 : Int32)) C dL_years_371 (by decide) ?_
  refine z_icmp_ne (tgt := 592) C dL_years_372 (by decide) (fun c => absurd (by decide) c) (fun _ => ?_)
  refine z_aload_n C dL_years_375 rfl 1 rfl ?_
  refine z_bipush (v := (13 : Int32)) C dL_years_376 (by decide) ?_
  refine z_iconst (v := (0 : Int32)) C dL_years_378 (by decide) ?_
  refine z_iconst (v := (0 : Int32)) C dL_years_379 (by decide) ?_
  obtain ⟨t3, q3, hr⟩ := hr
  have q3 : m_X7_creditAt 130 (0 : Int32) (0 : Int32) t2 = some (.inr 1, t3) := q3
  refine z_lS C 4 [.ref (ad 0), .int (13 : Int32), .int (0 : Int32), .int (0 : Int32)] [] (zBud_r hB) (cL_act_creditAt_x1 (zC_I C) (zC_st C) q3) (gc gq_L_act) (by decide +kernel) rfl dL_years_380 rfl ⟨Nat.le_of_ble_eq_true rfl, Nat.le_of_ble_eq_true rfl⟩ rfl (Nat.le_of_ble_eq_true rfl) ?_
  have C := zCT_p C (zBud_r hB); have hQ := hp _ hQ; have hB := zBud_p hB
  refine z_bipush (v := (-71 : Int32)) C dL_years_383 (by decide) ?_
  refine z_icmp_ne (tgt := 592) C dL_years_385 (by decide) (fun c => absurd (by decide) c) (fun _ => ?_)
  refine z_aload_n C dL_years_388 rfl 1 rfl ?_
  refine z_bipush (v := (12 : Int32)) C dL_years_389 (by decide) ?_
  refine z_iconst (v := (0 : Int32)) C dL_years_391 (by decide) ?_
  refine z_iconst (v := (0 : Int32)) C dL_years_392 (by decide) ?_
  obtain ⟨t4, q4, hr⟩ := hr
  have q4 : m_X7_dropCredit 130 t3 = some (.inr 3, t4) := q4
  refine z_lS C 4 [.ref (ad 0), .int (12 : Int32), .int (0 : Int32), .int (0 : Int32)] [] (zBud_r hB) (cL_act_dropCredit_x3 (zC_I C) (zC_st C) q4) (gc gq_L_act) (by decide +kernel) rfl dL_years_393 rfl ⟨Nat.le_of_ble_eq_true rfl, Nat.le_of_ble_eq_true rfl⟩ rfl (Nat.le_of_ble_eq_true rfl) ?_
  have C := zCT_p C (zBud_r hB); have hQ := hp _ hQ; have hB := zBud_p hB
  refine z_bipush (v := (-73 : Int32)) C dL_years_396 (by decide) ?_
  refine z_icmp_ne (tgt := 592) C dL_years_398 (by decide) (fun c => absurd (by decide) c) (fun _ => ?_)
  refine z_aload_n C dL_years_401 rfl 1 rfl ?_
  refine z_iconst (v := (0 : Int32)) C dL_years_402 (by decide) ?_
  refine z_bipush (v := (100 : Int32)) C dL_years_403 (by decide) ?_
  obtain ⟨t5, q5, hr⟩ := hr
  have q5 : m_X7_answer 130 (0 : Int32) (100 : Int32) t4 = some (.inl (3 : Int32), t5) := q5
  refine z_cV (vd := false) (Cn := RX7) (k := 0) C 2 [.int (0 : Int32), .int (100 : Int32)] [] (c_X7_answer (zC_I C) (zC_st C) q5) (gc gq_answer) (by decide +kernel) kX0 vc7 rfl rfl dL_years_405 rfl ⟨Nat.le_of_ble_eq_true rfl, Nat.le_of_ble_eq_true rfl⟩ rfl (Nat.le_of_ble_eq_true rfl) ?_
  refine z_iconst (v := (3 : Int32)) C dL_years_408 (by decide) ?_
  refine z_icmp_ne (tgt := 592) C dL_years_409 (by decide) (fun c => absurd (by decide) c) (fun _ => ?_)
  refine z_aload_n C dL_years_412 rfl 1 rfl ?_
  refine z_bipush (v := (80 : Int32)) C dL_years_413 (by decide) ?_
  refine z_sipush (v := (500 : Int32)) C dL_years_415 (by decide) ?_
  obtain ⟨t6, q6, hr⟩ := hr
  have q6 : m_X7_addCredit 130 (80 : Int32) (500 : Int32) t5 = some (.inl (0 : Int32), t6) := q6
  refine z_cV (vd := false) (Cn := RX7) (k := 0) C 2 [.int (80 : Int32), .int (500 : Int32)] [] (c_X7_addCredit (zC_I C) (zC_st C) q6) (gc gq_addCredit) (by decide +kernel) kX0 vc7 rfl rfl dL_years_418 rfl ⟨Nat.le_of_ble_eq_true rfl, Nat.le_of_ble_eq_true rfl⟩ rfl (Nat.le_of_ble_eq_true rfl) ?_
  refine z_if_ne (tgt := 592) C dL_years_421 (by decide) (fun c => absurd (by decide) c) (fun _ => ?_)
  refine z_aload_n C dL_years_424 rfl 1 rfl ?_
  refine z_bipush (v := (60 : Int32)) C dL_years_425 (by decide) ?_
  refine z_sipush (v := (999 : Int32)) C dL_years_427 (by decide) ?_
  obtain ⟨t7, q7, hr⟩ := hr
  have q7 : m_X7_addCredit 130 (60 : Int32) (999 : Int32) t6 = some (.inl (1 : Int32), t7) := q7
  refine z_cV (vd := false) (Cn := RX7) (k := 0) C 2 [.int (60 : Int32), .int (999 : Int32)] [] (c_X7_addCredit (zC_I C) (zC_st C) q7) (gc gq_addCredit) (by decide +kernel) kX0 vc7 rfl rfl dL_years_430 rfl ⟨Nat.le_of_ble_eq_true rfl, Nat.le_of_ble_eq_true rfl⟩ rfl (Nat.le_of_ble_eq_true rfl) ?_
  refine z_iconst (v := (1 : Int32)) C dL_years_433 (by decide) ?_
  refine z_icmp_ne (tgt := 592) C dL_years_434 (by decide) (fun c => absurd (by decide) c) (fun _ => ?_)
  refine z_aload_n C dL_years_437 rfl 1 rfl ?_
  refine z_iconst (v := (0 : Int32)) C dL_years_438 (by decide) ?_
  obtain ⟨t8, q8, hr⟩ := hr
  have q8 : m_X7_afterCredits 130 (0 : Int32) t7 = some (.inl (0 : Int32), t8) := q8
  refine z_cV (vd := false) (Cn := RX7) (k := 0) C 1 [.int (0 : Int32)] [] (c_X7_afterCredits (zC_I C) (zC_st C) q8) (gc gq_afterCredits) (by decide +kernel) kX0 vc7 rfl rfl dL_years_439 rfl ⟨Nat.le_of_ble_eq_true rfl, Nat.le_of_ble_eq_true rfl⟩ rfl (Nat.le_of_ble_eq_true rfl) ?_
  refine z_if_ne (tgt := 592) C dL_years_442 (by decide) (fun c => absurd (by decide) c) (fun _ => ?_)
  refine z_aload_n C dL_years_445 rfl 1 rfl ?_
  refine z_iconst (v := (0 : Int32)) C dL_years_446 (by decide) ?_
  obtain ⟨t9, q9, hr⟩ := hr
  have q9 : m_X7_bestSum 130 (0 : Int32) t8 = some (.inl (139 : Int32), t9) := q9
  refine z_cV (vd := false) (Cn := RX7) (k := 0) C 1 [.int (0 : Int32)] [] (c_X7_bestSum (zC_I C) (zC_st C) q9) (gc gq_bestSum) (by decide +kernel) kX0 vc7 rfl rfl dL_years_447 rfl ⟨Nat.le_of_ble_eq_true rfl, Nat.le_of_ble_eq_true rfl⟩ rfl (Nat.le_of_ble_eq_true rfl) ?_
  refine z_sipush (v := (139 : Int32)) C dL_years_450 (by decide) ?_
  refine z_icmp_ne (tgt := 592) C dL_years_453 (by decide) (fun c => absurd (by decide) c) (fun _ => ?_)
  have hr : t9 = s9 := hr
  subst hr
  exact kk _ C hQ hB
set_option maxRecDepth 100000 in
set_option maxHeartbeats 4000000 in
theorem wL_years_7 {h : zH} {ad : Nat → Nat} {G : zG} (C : zCT [] h ad zLX 2 G cL_years RL wq_years 11 241) {QQ : zG → Prop} (hp : ∀ G, QQ G → QQ (zGp G)) (hq : ∀ G, QQ G → QQ (zGa G 180 1080)) (hQ : QQ G) {f : Nat} (hB : zBud G (f + 1)) {s s9 : zS} (hr : zRun sc_years_7 s s9) (kk : ∀ G, zCT [] h ad zLX 2 G cL_years RL wq_years 11 241 → QQ G → zBud G f → zV h ad zLX 2 G s9 554 [(1, .int (9 : Int32)), (0, .ref (ad 0))] []) : zV h ad zLX 2 G s 456 [(1, .int (9 : Int32)), (0, .ref (ad 0))] [] := by
  refine z_aload_n C dL_years_456 rfl 1 rfl ?_
  refine z_iconst (v := (0 : Int32)) C dL_years_457 (by decide) ?_
  refine z_iconst (v := (0 : Int32)) C dL_years_458 (by decide) ?_
  obtain ⟨t1, q1, hr⟩ := hr
  have q1 : m_X7_creditAt 130 (0 : Int32) (0 : Int32) s = some (.inl (0 : Int32), t1) := q1
  refine z_cV (vd := false) (Cn := RX7) (k := 0) C 2 [.int (0 : Int32), .int (0 : Int32)] [] (c_X7_creditAt (zC_I C) (zC_st C) q1) (gc gq_creditAt) (by decide +kernel) kX0 vc7 rfl rfl dL_years_459 rfl ⟨Nat.le_of_ble_eq_true rfl, Nat.le_of_ble_eq_true rfl⟩ rfl (Nat.le_of_ble_eq_true rfl) ?_
  refine z_if_ne (tgt := 592) C dL_years_462 (by decide) (fun c => absurd (by decide) c) (fun _ => ?_)
  refine z_aload_n C dL_years_465 rfl 1 rfl ?_
  refine z_iconst (v := (0 : Int32)) C dL_years_466 (by decide) ?_
  refine z_iconst (v := (1 : Int32)) C dL_years_467 (by decide) ?_
  obtain ⟨t2, q2, hr⟩ := hr
  have q2 : m_X7_creditAt 130 (0 : Int32) (1 : Int32) t1 = some (.inl (1 : Int32), t2) := q2
  refine z_cV (vd := false) (Cn := RX7) (k := 0) C 2 [.int (0 : Int32), .int (1 : Int32)] [] (c_X7_creditAt (zC_I C) (zC_st C) q2) (gc gq_creditAt) (by decide +kernel) kX0 vc7 rfl rfl dL_years_468 rfl ⟨Nat.le_of_ble_eq_true rfl, Nat.le_of_ble_eq_true rfl⟩ rfl (Nat.le_of_ble_eq_true rfl) ?_
  refine z_iconst (v := (1 : Int32)) C dL_years_471 (by decide) ?_
  refine z_icmp_ne (tgt := 592) C dL_years_472 (by decide) (fun c => absurd (by decide) c) (fun _ => ?_)
  refine z_aload_n C dL_years_475 rfl 1 rfl ?_
  refine z_bipush (v := (13 : Int32)) C dL_years_476 (by decide) ?_
  refine z_iconst (v := (0 : Int32)) C dL_years_478 (by decide) ?_
  refine z_iconst (v := (2 : Int32)) C dL_years_479 (by decide) ?_
  obtain ⟨t3, q3, hr⟩ := hr
  have q3 : m_X7_creditAt 130 (0 : Int32) (2 : Int32) t2 = some (.inr 1, t3) := q3
  refine z_lS C 4 [.ref (ad 0), .int (13 : Int32), .int (0 : Int32), .int (2 : Int32)] [] (zBud_r hB) (cL_act_creditAt_x1 (zC_I C) (zC_st C) q3) (gc gq_L_act) (by decide +kernel) rfl dL_years_480 rfl ⟨Nat.le_of_ble_eq_true rfl, Nat.le_of_ble_eq_true rfl⟩ rfl (Nat.le_of_ble_eq_true rfl) ?_
  have C := zCT_p C (zBud_r hB); have hQ := hp _ hQ; have hB := zBud_p hB
  refine z_bipush (v := (-71 : Int32)) C dL_years_483 (by decide) ?_
  refine z_icmp_ne (tgt := 592) C dL_years_485 (by decide) (fun c => absurd (by decide) c) (fun _ => ?_)
  refine z_aload_n C dL_years_488 rfl 1 rfl ?_
  refine z_bipush (v := (30 : Int32)) C dL_years_489 (by decide) ?_
  refine z_sipush (v := (500 : Int32)) C dL_years_491 (by decide) ?_
  obtain ⟨t4, q4, hr⟩ := hr
  have q4 : m_X7_addCredit 130 (30 : Int32) (500 : Int32) t3 = some (.inl (2 : Int32), t4) := q4
  refine z_cV (vd := false) (Cn := RX7) (k := 0) C 2 [.int (30 : Int32), .int (500 : Int32)] [] (c_X7_addCredit (zC_I C) (zC_st C) q4) (gc gq_addCredit) (by decide +kernel) kX0 vc7 rfl rfl dL_years_494 rfl ⟨Nat.le_of_ble_eq_true rfl, Nat.le_of_ble_eq_true rfl⟩ rfl (Nat.le_of_ble_eq_true rfl) ?_
  refine z_iconst (v := (2 : Int32)) C dL_years_497 (by decide) ?_
  refine z_icmp_ne (tgt := 592) C dL_years_498 (by decide) (fun c => absurd (by decide) c) (fun _ => ?_)
  refine z_aload_n C dL_years_501 rfl 1 rfl ?_
  refine z_iconst (v := (0 : Int32)) C dL_years_502 (by decide) ?_
  obtain ⟨t5, q5, hr⟩ := hr
  have q5 : m_X7_bestSum 130 (0 : Int32) t4 = some (.inl (164 : Int32), t5) := q5
  refine z_cV (vd := false) (Cn := RX7) (k := 0) C 1 [.int (0 : Int32)] [] (c_X7_bestSum (zC_I C) (zC_st C) q5) (gc gq_bestSum) (by decide +kernel) kX0 vc7 rfl rfl dL_years_503 rfl ⟨Nat.le_of_ble_eq_true rfl, Nat.le_of_ble_eq_true rfl⟩ rfl (Nat.le_of_ble_eq_true rfl) ?_
  refine z_sipush (v := (164 : Int32)) C dL_years_506 (by decide) ?_
  refine z_icmp_ne (tgt := 592) C dL_years_509 (by decide) (fun c => absurd (by decide) c) (fun _ => ?_)
  refine z_aload_n C dL_years_512 rfl 1 rfl ?_
  refine z_iconst (v := (0 : Int32)) C dL_years_513 (by decide) ?_
  refine z_iconst (v := (0 : Int32)) C dL_years_514 (by decide) ?_
  obtain ⟨t6, q6, hr⟩ := hr
  have q6 : m_X7_creditAt 130 (0 : Int32) (0 : Int32) t5 = some (.inl (0 : Int32), t6) := q6
  refine z_cV (vd := false) (Cn := RX7) (k := 0) C 2 [.int (0 : Int32), .int (0 : Int32)] [] (c_X7_creditAt (zC_I C) (zC_st C) q6) (gc gq_creditAt) (by decide +kernel) kX0 vc7 rfl rfl dL_years_515 rfl ⟨Nat.le_of_ble_eq_true rfl, Nat.le_of_ble_eq_true rfl⟩ rfl (Nat.le_of_ble_eq_true rfl) ?_
  refine z_if_ne (tgt := 592) C dL_years_518 (by decide) (fun c => absurd (by decide) c) (fun _ => ?_)
  refine z_aload_n C dL_years_521 rfl 1 rfl ?_
  refine z_iconst (v := (0 : Int32)) C dL_years_522 (by decide) ?_
  refine z_iconst (v := (1 : Int32)) C dL_years_523 (by decide) ?_
  obtain ⟨t7, q7, hr⟩ := hr
  have q7 : m_X7_creditAt 130 (0 : Int32) (1 : Int32) t6 = some (.inl (2 : Int32), t7) := q7
  refine z_cV (vd := false) (Cn := RX7) (k := 0) C 2 [.int (0 : Int32), .int (1 : Int32)] [] (c_X7_creditAt (zC_I C) (zC_st C) q7) (gc gq_creditAt) (by decide +kernel) kX0 vc7 rfl rfl dL_years_524 rfl ⟨Nat.le_of_ble_eq_true rfl, Nat.le_of_ble_eq_true rfl⟩ rfl (Nat.le_of_ble_eq_true rfl) ?_
  refine z_iconst (v := (2 : Int32)) C dL_years_527 (by decide) ?_
  refine z_icmp_ne (tgt := 592) C dL_years_528 (by decide) (fun c => absurd (by decide) c) (fun _ => ?_)
  refine z_aload_n C dL_years_531 rfl 1 rfl ?_
  refine z_iconst (v := (0 : Int32)) C dL_years_532 (by decide) ?_
  refine z_iconst (v := (2 : Int32)) C dL_years_533 (by decide) ?_
  obtain ⟨t8, q8, hr⟩ := hr
  have q8 : m_X7_creditAt 130 (0 : Int32) (2 : Int32) t7 = some (.inl (1 : Int32), t8) := q8
  refine z_cV (vd := false) (Cn := RX7) (k := 0) C 2 [.int (0 : Int32), .int (2 : Int32)] [] (c_X7_creditAt (zC_I C) (zC_st C) q8) (gc gq_creditAt) (by decide +kernel) kX0 vc7 rfl rfl dL_years_534 rfl ⟨Nat.le_of_ble_eq_true rfl, Nat.le_of_ble_eq_true rfl⟩ rfl (Nat.le_of_ble_eq_true rfl) ?_
  refine z_iconst (v := (1 : Int32)) C dL_years_537 (by decide) ?_
  refine z_icmp_ne (tgt := 592) C dL_years_538 (by decide) (fun c => absurd (by decide) c) (fun _ => ?_)
  refine z_aload_n C dL_years_541 rfl 1 rfl ?_
  refine z_iconst (v := (0 : Int32)) C dL_years_542 (by decide) ?_
  refine z_sipush (v := (200 : Int32)) C dL_years_543 (by decide) ?_
  obtain ⟨t9, q9, hr⟩ := hr
  have q9 : m_X7_answer 130 (0 : Int32) (200 : Int32) t8 = some (.inl (100 : Int32), t9) := q9
  refine z_cV (vd := false) (Cn := RX7) (k := 0) C 2 [.int (0 : Int32), .int (200 : Int32)] [] (c_X7_answer (zC_I C) (zC_st C) q9) (gc gq_answer) (by decide +kernel) kX0 vc7 rfl rfl dL_years_546 rfl ⟨Nat.le_of_ble_eq_true rfl, Nat.le_of_ble_eq_true rfl⟩ rfl (Nat.le_of_ble_eq_true rfl) ?_
  refine z_bipush (v := (100 : Int32)) C dL_years_549 (by decide) ?_
  refine z_icmp_ne (tgt := 592) C dL_years_551 (by decide) (fun c => absurd (by decide) c) (fun _ => ?_)
  have hr : t9 = s9 := hr
  subst hr
  exact kk _ C hQ hB
set_option maxRecDepth 100000 in
set_option maxHeartbeats 4000000 in
theorem wL_years_8 {h : zH} {ad : Nat → Nat} {G : zG} (C : zCT [] h ad zLX 2 G cL_years RL wq_years 11 241) {QQ : zG → Prop} (hp : ∀ G, QQ G → QQ (zGp G)) (hq : ∀ G, QQ G → QQ (zGa G 180 1080)) (hQ : QQ G) {f : Nat} (hB : zBud G (f + 0)) {s s9 : zS} (hr : zRun sc_years_8 s s9) (kk : ∀ G, zCT [] h ad zLX 2 G cL_years RL wq_years 11 241 → QQ G → zBud G f → zV h ad zLX 2 G s9 585 [(1, .int (9 : Int32)), (0, .ref (ad 0))] []) : zV h ad zLX 2 G s 554 [(1, .int (9 : Int32)), (0, .ref (ad 0))] [] := by
  refine z_aload_n C dL_years_554 rfl 1 rfl ?_
  refine z_iconst (v := (0 : Int32)) C dL_years_555 (by decide) ?_
  obtain ⟨t1, q1, hr⟩ := hr
  have q1 : m_X7_afterCredits 130 (0 : Int32) s = some (.inl (30 : Int32), t1) := q1
  refine z_cV (vd := false) (Cn := RX7) (k := 0) C 1 [.int (0 : Int32)] [] (c_X7_afterCredits (zC_I C) (zC_st C) q1) (gc gq_afterCredits) (by decide +kernel) kX0 vc7 rfl rfl dL_years_556 rfl ⟨Nat.le_of_ble_eq_true rfl, Nat.le_of_ble_eq_true rfl⟩ rfl (Nat.le_of_ble_eq_true rfl) ?_
  refine z_bipush (v := (30 : Int32)) C dL_years_559 (by decide) ?_
  refine z_icmp_ne (tgt := 592) C dL_years_561 (by decide) (fun c => absurd (by decide) c) (fun _ => ?_)
  refine z_aload_n C dL_years_564 rfl 1 rfl ?_
  refine z_iconst (v := (0 : Int32)) C dL_years_565 (by decide) ?_
  obtain ⟨t2, q2, hr⟩ := hr
  have q2 : m_X7_bestSum 130 (0 : Int32) t1 = some (.inl (170 : Int32), t2) := q2
  refine z_cV (vd := false) (Cn := RX7) (k := 0) C 1 [.int (0 : Int32)] [] (c_X7_bestSum (zC_I C) (zC_st C) q2) (gc gq_bestSum) (by decide +kernel) kX0 vc7 rfl rfl dL_years_566 rfl ⟨Nat.le_of_ble_eq_true rfl, Nat.le_of_ble_eq_true rfl⟩ rfl (Nat.le_of_ble_eq_true rfl) ?_
  refine z_sipush (v := (170 : Int32)) C dL_years_569 (by decide) ?_
  refine z_icmp_ne (tgt := 592) C dL_years_572 (by decide) (fun c => absurd (by decide) c) (fun _ => ?_)
  refine z_aload_n C dL_years_575 rfl 1 rfl ?_
  refine z_iconst (v := (0 : Int32)) C dL_years_576 (by decide) ?_
  refine z_iconst (v := (2 : Int32)) C dL_years_577 (by decide) ?_
  obtain ⟨t3, q3, hr⟩ := hr
  have q3 : m_X7_creditAt 130 (0 : Int32) (2 : Int32) t2 = some (.inl (2 : Int32), t3) := q3
  refine z_cV (vd := false) (Cn := RX7) (k := 0) C 2 [.int (0 : Int32), .int (2 : Int32)] [] (c_X7_creditAt (zC_I C) (zC_st C) q3) (gc gq_creditAt) (by decide +kernel) kX0 vc7 rfl rfl dL_years_578 rfl ⟨Nat.le_of_ble_eq_true rfl, Nat.le_of_ble_eq_true rfl⟩ rfl (Nat.le_of_ble_eq_true rfl) ?_
  refine z_iconst (v := (2 : Int32)) C dL_years_581 (by decide) ?_
  refine z_icmp_ne (tgt := 592) C dL_years_582 (by decide) (fun c => absurd (by decide) c) (fun _ => ?_)
  have hr : t3 = s9 := hr
  subst hr
  exact kk _ C hQ hB
set_option maxRecDepth 100000 in
set_option maxHeartbeats 4000000 in
theorem wL_years_9 {h : zH} {ad : Nat → Nat} {G : zG} (C : zCT [] h ad zLX 2 G cL_years RL wq_years 11 241) {QQ : zG → Prop} (hp : ∀ G, QQ G → QQ (zGp G)) (hq : ∀ G, QQ G → QQ (zGa G 180 1080)) (hQ : QQ G) {f : Nat} (hB : zBud G (f + 180)) {s s9 : zS} (hr : zRun sc_years_9 s s9) (kk : ∀ G, zCT [] h ad zLX 2 G cL_years RL wq_years 11 241 → QQ G → zBud G f → zV h ad zLX 2 G s9 594 [(1, .int (9 : Int32)), (0, .ref (ad 0))] []) : zV h ad zLX 2 G s 585 [(1, .int (9 : Int32)), (0, .ref (ad 0))] [] := by
  refine z_aload_n C dL_years_585 rfl 1 rfl ?_
  refine z_lK (f := f) (mc := 180) (ms := 1080) C 1 [.ref (ad 0)] [] hB rfl (coL_refuses (zC_I C) (zC_st C) (by decide) (by decide) hr) (gc gq_L_refuses) (by decide +kernel) rfl dL_years_586 rfl ⟨Nat.le_of_ble_eq_true rfl, Nat.le_of_ble_eq_true rfl⟩ rfl (Nat.le_of_ble_eq_true rfl) ?_
  have C := zCT_a C (zBud_le hB (Nat.le_add_left _ _)) (Nat.le_refl 1080); have hQ := hq _ hQ; have hB := zBud_a hB
  refine z_if_ne (tgt := 594) C dL_years_589 (by decide) (fun _ => ?_) (fun c => absurd c (by decide))
  exact kk _ C hQ hB
set_option maxRecDepth 100000 in
set_option maxHeartbeats 4000000 in
theorem wL_years_10 {h : zH} {ad : Nat → Nat} {G : zG} (C : zCT [] h ad zLX 2 G cL_years RL wq_years 11 241) {QQ : zG → Prop} (hp : ∀ G, QQ G → QQ (zGp G)) (hq : ∀ G, QQ G → QQ (zGa G 180 1080)) (hQ : QQ G) {f : Nat} (hB : zBud G (f + 1)) {s s9 : zS} (hr : zRun sc_years_10 s s9) (kk : ∀ G, zCT [] h ad zLX 2 G cL_years RL wq_years 11 241 → QQ G → zBud G f → zV h ad zLX 2 G s9 683 [(1, .int (9 : Int32)), (0, .ref (ad 0))] []) : zV h ad zLX 2 G s 594 [(1, .int (9 : Int32)), (0, .ref (ad 0))] [] := by
  refine z_aload_n C dL_years_594 rfl 1 rfl ?_
  obtain ⟨t1, q1, hr⟩ := hr
  have q1 : m_X7_dropCredit 130 s = some (.inl (2 : Int32), t1) := q1
  refine z_cV (vd := false) (Cn := RX7) (k := 0) C 0 [] [] (c_X7_dropCredit (zC_I C) (zC_st C) q1) (gc gq_dropCredit) (by decide +kernel) kX0 vc7 rfl rfl dL_years_595 rfl ⟨Nat.le_of_ble_eq_true rfl, Nat.le_of_ble_eq_true rfl⟩ rfl (Nat.le_of_ble_eq_true rfl) ?_
  refine z_iconst (v := (2 : Int32)) C dL_years_598 (by decide) ?_
  refine z_icmp_ne (tgt := 730) C dL_years_599 (by decide) (fun c => absurd (by decide) c) (fun _ => ?_)
  refine z_aload_n C dL_years_602 rfl 1 rfl ?_
  refine z_iconst (v := (0 : Int32)) C dL_years_603 (by decide) ?_
  obtain ⟨t2, q2, hr⟩ := hr
  have q2 : m_X7_afterCredits 130 (0 : Int32) t1 = some (.inl (60 : Int32), t2) := q2
  refine z_cV (vd := false) (Cn := RX7) (k := 0) C 1 [.int (0 : Int32)] [] (c_X7_afterCredits (zC_I C) (zC_st C) q2) (gc gq_afterCredits) (by decide +kernel) kX0 vc7 rfl rfl dL_years_604 rfl ⟨Nat.le_of_ble_eq_true rfl, Nat.le_of_ble_eq_true rfl⟩ rfl (Nat.le_of_ble_eq_true rfl) ?_
  refine z_bipush (v := (60 : Int32)) C dL_years_607 (by decide) ?_
  refine z_icmp_ne (tgt := 730) C dL_years_609 (by decide) (fun c => absurd (by decide) c) (fun _ => ?_)
  refine z_aload_n C dL_years_612 rfl 1 rfl ?_
  refine z_iconst (v := (1 : Int32)) C dL_years_613 (by decide) ?_
  refine z_sipush (v := (1000 : Int32)) C dL_years_614 (by decide) ?_
  obtain ⟨t3, q3, hr⟩ := hr
  have q3 : m_X7_addCredit 130 (1 : Int32) (1000 : Int32) t2 = some (.inl (2 : Int32), t3) := q3
  refine z_cV (vd := false) (Cn := RX7) (k := 0) C 2 [.int (1 : Int32), .int (1000 : Int32)] [] (c_X7_addCredit (zC_I C) (zC_st C) q3) (gc gq_addCredit) (by decide +kernel) kX0 vc7 rfl rfl dL_years_617 rfl ⟨Nat.le_of_ble_eq_true rfl, Nat.le_of_ble_eq_true rfl⟩ rfl (Nat.le_of_ble_eq_true rfl) ?_
  refine z_iconst (v := (2 : Int32)) C dL_years_620 (by decide) ?_
  refine z_icmp_ne (tgt := 730) C dL_years_621 (by decide) (fun c => absurd (by decide) c) (fun _ => ?_)
  refine z_aload_n C dL_years_624 rfl 1 rfl ?_
  refine z_iconst (v := (1 : Int32)) C dL_years_625 (by decide) ?_
  refine z_iconst (v := (0 : Int32)) C dL_years_626 (by decide) ?_
  obtain ⟨t4, q4, hr⟩ := hr
  have q4 : m_X7_addCredit 130 (1 : Int32) (0 : Int32) t3 = some (.inl (3 : Int32), t4) := q4
  refine z_cV (vd := false) (Cn := RX7) (k := 0) C 2 [.int (1 : Int32), .int (0 : Int32)] [] (c_X7_addCredit (zC_I C) (zC_st C) q4) (gc gq_addCredit) (by decide +kernel) kX0 vc7 rfl rfl dL_years_627 rfl ⟨Nat.le_of_ble_eq_true rfl, Nat.le_of_ble_eq_true rfl⟩ rfl (Nat.le_of_ble_eq_true rfl) ?_
  refine z_iconst (v := (3 : Int32)) C dL_years_630 (by decide) ?_
  refine z_icmp_ne (tgt := 730) C dL_years_631 (by decide) (fun c => absurd (by decide) c) (fun _ => ?_)
  refine z_aload_n C dL_years_634 rfl 1 rfl ?_
  refine z_iconst (v := (1 : Int32)) C dL_years_635 (by decide) ?_
  refine z_iconst (v := (0 : Int32)) C dL_years_636 (by decide) ?_
  obtain ⟨t5, q5, hr⟩ := hr
  have q5 : m_X7_addCredit 130 (1 : Int32) (0 : Int32) t4 = some (.inl (4 : Int32), t5) := q5
  refine z_cV (vd := false) (Cn := RX7) (k := 0) C 2 [.int (1 : Int32), .int (0 : Int32)] [] (c_X7_addCredit (zC_I C) (zC_st C) q5) (gc gq_addCredit) (by decide +kernel) kX0 vc7 rfl rfl dL_years_637 rfl ⟨Nat.le_of_ble_eq_true rfl, Nat.le_of_ble_eq_true rfl⟩ rfl (Nat.le_of_ble_eq_true rfl) ?_
  refine z_iconst (v := (4 : Int32)) C dL_years_640 (by decide) ?_
  refine z_icmp_ne (tgt := 730) C dL_years_641 (by decide) (fun c => absurd (by decide) c) (fun _ => ?_)
  refine z_aload_n C dL_years_644 rfl 1 rfl ?_
  refine z_bipush (v := (11 : Int32)) C dL_years_645 (by decide) ?_
  refine z_iconst (v := (1 : Int32)) C dL_years_647 (by decide) ?_
  refine z_iconst (v := (0 : Int32)) C dL_years_648 (by decide) ?_
  obtain ⟨t6, q6, hr⟩ := hr
  have q6 : m_X7_addCredit 130 (1 : Int32) (0 : Int32) t5 = some (.inr 3, t6) := q6
  refine z_lS C 4 [.ref (ad 0), .int (11 : Int32), .int (1 : Int32), .int (0 : Int32)] [] (zBud_r hB) (cL_act_addCredit_x3 (zC_I C) (zC_st C) q6) (gc gq_L_act) (by decide +kernel) rfl dL_years_649 rfl ⟨Nat.le_of_ble_eq_true rfl, Nat.le_of_ble_eq_true rfl⟩ rfl (Nat.le_of_ble_eq_true rfl) ?_
  have C := zCT_p C (zBud_r hB); have hQ := hp _ hQ; have hB := zBud_p hB
  refine z_bipush (v := (-73 : Int32)) C dL_years_652 (by decide) ?_
  refine z_icmp_ne (tgt := 730) C dL_years_654 (by decide) (fun c => absurd (by decide) c) (fun _ => ?_)
  refine z_aload_n C dL_years_657 rfl 1 rfl ?_
  refine z_iconst (v := (0 : Int32)) C dL_years_658 (by decide) ?_
  obtain ⟨t7, q7, hr⟩ := hr
  have q7 : m_X7_afterCredits 130 (0 : Int32) t6 = some (.inl (57 : Int32), t7) := q7
  refine z_cV (vd := false) (Cn := RX7) (k := 0) C 1 [.int (0 : Int32)] [] (c_X7_afterCredits (zC_I C) (zC_st C) q7) (gc gq_afterCredits) (by decide +kernel) kX0 vc7 rfl rfl dL_years_659 rfl ⟨Nat.le_of_ble_eq_true rfl, Nat.le_of_ble_eq_true rfl⟩ rfl (Nat.le_of_ble_eq_true rfl) ?_
  refine z_bipush (v := (57 : Int32)) C dL_years_662 (by decide) ?_
  refine z_icmp_ne (tgt := 730) C dL_years_664 (by decide) (fun c => absurd (by decide) c) (fun _ => ?_)
  refine z_aload_n C dL_years_667 rfl 1 rfl ?_
  obtain ⟨t8, q8, hr⟩ := hr
  have q8 : m_X7_dropCredit 130 t7 = some (.inl (4 : Int32), t8) := q8
  refine z_cV (vd := false) (Cn := RX7) (k := 0) C 0 [] [] (c_X7_dropCredit (zC_I C) (zC_st C) q8) (gc gq_dropCredit) (by decide +kernel) kX0 vc7 rfl rfl dL_years_668 rfl ⟨Nat.le_of_ble_eq_true rfl, Nat.le_of_ble_eq_true rfl⟩ rfl (Nat.le_of_ble_eq_true rfl) ?_
  refine z_iconst (v := (4 : Int32)) C dL_years_671 (by decide) ?_
  refine z_icmp_ne (tgt := 730) C dL_years_672 (by decide) (fun c => absurd (by decide) c) (fun _ => ?_)
  refine z_aload_n C dL_years_675 rfl 1 rfl ?_
  obtain ⟨t9, q9, hr⟩ := hr
  have q9 : m_X7_dropCredit 130 t8 = some (.inl (3 : Int32), t9) := q9
  refine z_cV (vd := false) (Cn := RX7) (k := 0) C 0 [] [] (c_X7_dropCredit (zC_I C) (zC_st C) q9) (gc gq_dropCredit) (by decide +kernel) kX0 vc7 rfl rfl dL_years_676 rfl ⟨Nat.le_of_ble_eq_true rfl, Nat.le_of_ble_eq_true rfl⟩ rfl (Nat.le_of_ble_eq_true rfl) ?_
  refine z_iconst (v := (3 : Int32)) C dL_years_679 (by decide) ?_
  refine z_icmp_ne (tgt := 730) C dL_years_680 (by decide) (fun c => absurd (by decide) c) (fun _ => ?_)
  have hr : t9 = s9 := hr
  subst hr
  exact kk _ C hQ hB
set_option maxRecDepth 100000 in
set_option maxHeartbeats 4000000 in
theorem wL_years_11 {h : zH} {ad : Nat → Nat} {G : zG} (C : zCT [] h ad zLX 2 G cL_years RL wq_years 11 241) {QQ : zG → Prop} (hp : ∀ G, QQ G → QQ (zGp G)) (hq : ∀ G, QQ G → QQ (zGa G 180 1080)) (hQ : QQ G) {f : Nat} (hB : zBud G (f + 1)) {s s9 : zS} (hr : zRun sc_years_11 s s9) (kk : ∀ G, zCT [] h ad zLX 2 G cL_years RL wq_years 11 241 → QQ G → zBud G f → zV h ad zLX 2 G s9 719 [(1, .int (9 : Int32)), (0, .ref (ad 0))] []) : zV h ad zLX 2 G s 683 [(1, .int (9 : Int32)), (0, .ref (ad 0))] [] := by
  refine z_aload_n C dL_years_683 rfl 1 rfl ?_
  obtain ⟨t1, q1, hr⟩ := hr
  have q1 : m_X7_dropCredit 130 s = some (.inl (2 : Int32), t1) := q1
  refine z_cV (vd := false) (Cn := RX7) (k := 0) C 0 [] [] (c_X7_dropCredit (zC_I C) (zC_st C) q1) (gc gq_dropCredit) (by decide +kernel) kX0 vc7 rfl rfl dL_years_684 rfl ⟨Nat.le_of_ble_eq_true rfl, Nat.le_of_ble_eq_true rfl⟩ rfl (Nat.le_of_ble_eq_true rfl) ?_
  refine z_iconst (v := (2 : Int32)) C dL_years_687 (by decide) ?_
  refine z_icmp_ne (tgt := 730) C dL_years_688 (by decide) (fun c => absurd (by decide) c) (fun _ => ?_)
  refine z_aload_n C dL_years_691 rfl 1 rfl ?_
  obtain ⟨t2, q2, hr⟩ := hr
  have q2 : m_X7_dropCredit 130 t1 = some (.inl (1 : Int32), t2) := q2
  refine z_cV (vd := false) (Cn := RX7) (k := 0) C 0 [] [] (c_X7_dropCredit (zC_I C) (zC_st C) q2) (gc gq_dropCredit) (by decide +kernel) kX0 vc7 rfl rfl dL_years_692 rfl ⟨Nat.le_of_ble_eq_true rfl, Nat.le_of_ble_eq_true rfl⟩ rfl (Nat.le_of_ble_eq_true rfl) ?_
  refine z_iconst (v := (1 : Int32)) C dL_years_695 (by decide) ?_
  refine z_icmp_ne (tgt := 730) C dL_years_696 (by decide) (fun c => absurd (by decide) c) (fun _ => ?_)
  refine z_aload_n C dL_years_699 rfl 1 rfl ?_
  obtain ⟨t3, q3, hr⟩ := hr
  have q3 : m_X7_dropCredit 130 t2 = some (.inl (0 : Int32), t3) := q3
  refine z_cV (vd := false) (Cn := RX7) (k := 0) C 0 [] [] (c_X7_dropCredit (zC_I C) (zC_st C) q3) (gc gq_dropCredit) (by decide +kernel) kX0 vc7 rfl rfl dL_years_700 rfl ⟨Nat.le_of_ble_eq_true rfl, Nat.le_of_ble_eq_true rfl⟩ rfl (Nat.le_of_ble_eq_true rfl) ?_
  refine z_if_ne (tgt := 730) C dL_years_703 (by decide) (fun c => absurd (by decide) c) (fun _ => ?_)
  refine z_aload_n C dL_years_706 rfl 1 rfl ?_
  refine z_bipush (v := (12 : Int32)) C dL_years_707 (by decide) ?_
  refine z_iconst (v := (0 : Int32)) C dL_years_709 (by decide) ?_
  refine z_iconst (v := (0 : Int32)) C dL_years_710 (by decide) ?_
  obtain ⟨t4, q4, hr⟩ := hr
  have q4 : m_X7_dropCredit 130 t3 = some (.inr 3, t4) := q4
  refine z_lS C 4 [.ref (ad 0), .int (12 : Int32), .int (0 : Int32), .int (0 : Int32)] [] (zBud_r hB) (cL_act_dropCredit_x3 (zC_I C) (zC_st C) q4) (gc gq_L_act) (by decide +kernel) rfl dL_years_711 rfl ⟨Nat.le_of_ble_eq_true rfl, Nat.le_of_ble_eq_true rfl⟩ rfl (Nat.le_of_ble_eq_true rfl) ?_
  have C := zCT_p C (zBud_r hB); have hQ := hp _ hQ; have hB := zBud_p hB
  refine z_bipush (v := (-73 : Int32)) C dL_years_714 (by decide) ?_
  refine z_icmp_ne (tgt := 730) C dL_years_716 (by decide) (fun c => absurd (by decide) c) (fun _ => ?_)
  have hr : t4 = s9 := hr
  subst hr
  exact kk _ C hQ hB
set_option maxRecDepth 100000 in
set_option maxHeartbeats 4000000 in
theorem wL_years_12 {h : zH} {ad : Nat → Nat} {G : zG} (C : zCT [] h ad zLX 2 G cL_years RL wq_years 11 241) {QQ : zG → Prop} (hp : ∀ G, QQ G → QQ (zGp G)) (hq : ∀ G, QQ G → QQ (zGa G 180 1080)) (hQ : QQ G) {f : Nat} (hB : zBud G (f + 180)) {s s9 : zS} (hr : zRun sc_years_12 s s9) (kk : ∀ G, zCT [] h ad zLX 2 G cL_years RL wq_years 11 241 → QQ G → zBud G f → zV h ad zLX 2 G s9 726 [(1, .int (9 : Int32)), (0, .ref (ad 0))] []) : zV h ad zLX 2 G s 719 [(1, .int (9 : Int32)), (0, .ref (ad 0))] [] := by
  refine z_aload_n C dL_years_719 rfl 1 rfl ?_
  refine z_lK (f := f) (mc := 180) (ms := 1080) C 1 [.ref (ad 0)] [] hB rfl (coL_refuses (zC_I C) (zC_st C) (by decide) (by decide) hr) (gc gq_L_refuses) (by decide +kernel) rfl dL_years_720 rfl ⟨Nat.le_of_ble_eq_true rfl, Nat.le_of_ble_eq_true rfl⟩ rfl (Nat.le_of_ble_eq_true rfl) ?_
  have C := zCT_a C (zBud_le hB (Nat.le_add_left _ _)) (Nat.le_refl 1080); have hQ := hq _ hQ; have hB := zBud_a hB
  refine z_if_eq (tgt := 730) C dL_years_723 (by decide) (fun c => absurd c (by decide)) (fun _ => ?_)
  exact kk _ C hQ hB
set_option maxRecDepth 100000 in
set_option maxHeartbeats 4000000 in
theorem wL_years_13 {h : zH} {ad : Nat → Nat} {G : zG} (C : zCT [] h ad zLX 2 G cL_years RL wq_years 11 241) {QQ : zG → Prop} (hp : ∀ G, QQ G → QQ (zGp G)) (hq : ∀ G, QQ G → QQ (zGa G 180 1080)) (hQ : QQ G) {f : Nat} (hB : zBud G (f + 0)) {s s9 : zS} (hr : zRun sc_years_13 s s9) (kk : ∀ G, zCT [] h ad zLX 2 G cL_years RL wq_years 11 241 → QQ G → zBud G f → zV h ad zLX 2 G s9 731 [(1, .int (9 : Int32)), (0, .ref (ad 0))] [.int (1 : Int32)]) : zV h ad zLX 2 G s 726 [(1, .int (9 : Int32)), (0, .ref (ad 0))] [] := by
  refine z_iconst (v := (1 : Int32)) C dL_years_726 (by decide) ?_
  refine z_goto (tgt := 731) C dL_years_727 (by decide) ?_
  have hr : s = s9 := hr
  subst hr
  exact kk _ C hQ hB
