/-! refuses: every call of its loop is refused and changes nothing -/
set_option maxRecDepth 100000 in
theorem eL_refuses_c77 : Cond.constant RL 77 (2147483647 : Int32) ∈ wsL_refuses := by decide +kernel
set_option maxRecDepth 100000 in
theorem eL_refuses_c78 : Cond.constant RL 78 (1000000001 : Int32) ∈ wsL_refuses := by decide +kernel
set_option maxRecDepth 100000 in
theorem eL_refuses_c79 : Cond.constant RL 79 (1000001 : Int32) ∈ wsL_refuses := by decide +kernel
set_option maxRecDepth 100000 in
set_option maxHeartbeats 4000000 in
theorem wL_refuses_0 {h : zH} {ad : Nat → Nat} {G : zG} (C : zCT [] h ad zLX 12 G cL_refuses RL wsL_refuses 10 210) {QQ : zG → Prop} (hp : ∀ G, QQ G → QQ (zGp G)) (hQ : QQ G) {f : Nat} (hB : zBud G (f + 7)) {s1 : zS} {y c v : Int32} (hRI : zRI s1 y) (hc : ¬ (y ≤ y - 1 ∧ y - 1 ≤ y + 20) ∧ ¬ (y ≤ y + 21 ∧ y + 21 ≤ y + 20) ∧ ¬ (y ≤ 2147483647 ∧ (2147483647 : Int32) ≤ y + 20) ∧ ¬ (y ≤ -2147483648 ∧ (-2147483648 : Int32) ≤ y + 20)) (kk : ∀ G, zCT [] h ad zLX 12 G cL_refuses RL wsL_refuses 10 210 → QQ G → zBud G f → zV h ad zLX 12 G s1 237 [(10, .int (-1 : Int32)), (9, .int (-1 : Int32)), (8, .int (-1 : Int32)), (7, .int (-1 : Int32)), (6, .int (-1 : Int32)), (5, .int (0 : Int32)), (4, .int (2147483647 : Int32)), (3, .int v), (2, .int c), (1, .int y), (0, .ref (ad 0))] []) : zV h ad zLX 12 G s1 24 [(5, .int (0 : Int32)), (4, .int (2147483647 : Int32)), (3, .int v), (2, .int c), (1, .int y), (0, .ref (ad 0))] [] := by
  refine z_iload C dL_refuses_24 0 rfl ?_
  refine z_iconst (v := (4 : Int32)) C dL_refuses_26 (by decide) ?_
  refine z_icmp_ge (tgt := 715) C dL_refuses_27 (by decide) (fun c => absurd c (by decide)) (fun _ => ?_)
  refine z_iload C dL_refuses_30 0 rfl ?_
  refine z_if_ne (tgt := 39) C dL_refuses_32 (by decide) (fun c => absurd (by decide) c) (fun _ => ?_)
  refine z_iconst (v := (-1 : Int32)) C dL_refuses_35 (by decide) ?_
  refine z_goto (tgt := 55) C dL_refuses_36 (by decide) ?_
  refine z_istore (y := (-1 : Int32)) (lv' := [(6, .int (-1 : Int32)), (5, .int (0 : Int32)), (4, .int (2147483647 : Int32)), (3, .int v), (2, .int c), (1, .int y), (0, .ref (ad 0))]) C dL_refuses_55 (by decide) rfl rfl ?_
  refine z_iload C dL_refuses_57 1 rfl ?_
  refine z_iconst (v := (1 : Int32)) C dL_refuses_59 (by decide) ?_
  refine z_icmp_ne (tgt := 68) C dL_refuses_60 (by decide) (fun _ => ?_) (fun c => absurd c (by decide))
  refine z_iload C dL_refuses_68 0 rfl ?_
  refine z_istore (y := (-1 : Int32)) (lv' := [(7, .int (-1 : Int32)), (6, .int (-1 : Int32)), (5, .int (0 : Int32)), (4, .int (2147483647 : Int32)), (3, .int v), (2, .int c), (1, .int y), (0, .ref (ad 0))]) C dL_refuses_70 (by decide) rfl rfl ?_
  refine z_iload C dL_refuses_72 2 rfl ?_
  refine z_iconst (v := (1 : Int32)) C dL_refuses_74 (by decide) ?_
  refine z_icmp_ne (tgt := 83) C dL_refuses_75 (by decide) (fun _ => ?_) (fun c => absurd c (by decide))
  refine z_iload C dL_refuses_83 1 rfl ?_
  refine z_istore (y := (-1 : Int32)) (lv' := [(8, .int (-1 : Int32)), (7, .int (-1 : Int32)), (6, .int (-1 : Int32)), (5, .int (0 : Int32)), (4, .int (2147483647 : Int32)), (3, .int v), (2, .int c), (1, .int y), (0, .ref (ad 0))]) C dL_refuses_85 (by decide) rfl rfl ?_
  refine z_iload C dL_refuses_87 3 rfl ?_
  refine z_iconst (v := (1 : Int32)) C dL_refuses_89 (by decide) ?_
  refine z_icmp_ne (tgt := 98) C dL_refuses_90 (by decide) (fun _ => ?_) (fun c => absurd c (by decide))
  refine z_iload C dL_refuses_98 2 rfl ?_
  refine z_istore (y := (-1 : Int32)) (lv' := [(9, .int (-1 : Int32)), (8, .int (-1 : Int32)), (7, .int (-1 : Int32)), (6, .int (-1 : Int32)), (5, .int (0 : Int32)), (4, .int (2147483647 : Int32)), (3, .int v), (2, .int c), (1, .int y), (0, .ref (ad 0))]) C dL_refuses_100 (by decide) rfl rfl ?_
  refine z_iload C dL_refuses_102 4 rfl ?_
  refine z_iconst (v := (1 : Int32)) C dL_refuses_104 (by decide) ?_
  refine z_icmp_ne (tgt := 114) C dL_refuses_105 (by decide) (fun _ => ?_) (fun c => absurd c (by decide))
  refine z_iload C dL_refuses_114 3 rfl ?_
  refine z_istore (y := (-1 : Int32)) (lv' := [(10, .int (-1 : Int32)), (9, .int (-1 : Int32)), (8, .int (-1 : Int32)), (7, .int (-1 : Int32)), (6, .int (-1 : Int32)), (5, .int (0 : Int32)), (4, .int (2147483647 : Int32)), (3, .int v), (2, .int c), (1, .int y), (0, .ref (ad 0))]) C dL_refuses_116 (by decide) rfl rfl ?_
  refine z_aload_n C dL_refuses_118 rfl 10 rfl ?_
  refine z_iload C dL_refuses_119 3 rfl ?_
  refine z_bipush (v := (99 : Int32)) C dL_refuses_121 (by decide) ?_
  refine z_iconst (v := (0 : Int32)) C dL_refuses_123 (by decide) ?_
  refine z_iconst (v := (0 : Int32)) C dL_refuses_124 (by decide) ?_
  refine z_lS C 5 [.ref (ad 0), .int (-1 : Int32), .int (99 : Int32), .int (0 : Int32), .int (0 : Int32)] [] (zBud_r hB) (cL_define_x1 (zC_I C) (zC_st C) (n := 130) (R_def1 (by decide))) gL_refuses_L_define (by decide +kernel) rfl dL_refuses_125 rfl ⟨Nat.le_of_ble_eq_true rfl, Nat.le_of_ble_eq_true rfl⟩ rfl (Nat.le_of_ble_eq_true rfl) ?_
  have C := zCT_p C (zBud_r hB); have hQ := hp _ hQ; have hB := zBud_p hB
  refine z_bipush (v := (-71 : Int32)) C dL_refuses_128 (by decide) ?_
  refine z_icmp_ne (tgt := 273) C dL_refuses_130 (by decide) (fun c => absurd (by decide) c) (fun _ => ?_)
  refine z_aload_n C dL_refuses_133 rfl 10 rfl ?_
  refine z_bipush (v := (15 : Int32)) C dL_refuses_134 (by decide) ?_
  refine z_iload C dL_refuses_136 5 rfl ?_
  refine z_iconst (v := (1 : Int32)) C dL_refuses_138 (by decide) ?_
  refine z_icmp_ne (tgt := 147) C dL_refuses_139 (by decide) (fun _ => ?_) (fun c => absurd c (by decide))
  refine z_iload C dL_refuses_147 4 rfl ?_
  refine z_iload C dL_refuses_149 3 rfl ?_
  refine z_iload C dL_refuses_151 3 rfl ?_
  refine z_lS C 5 [.ref (ad 0), .int (15 : Int32), .int (-1 : Int32), .int (-1 : Int32), .int (-1 : Int32)] [] (zBud_r hB) (cL_define_x2 (zC_I C) (zC_st C) (n := 130) (R_def2 (by decide) (by decide))) gL_refuses_L_define (by decide +kernel) rfl dL_refuses_153 rfl ⟨Nat.le_of_ble_eq_true rfl, Nat.le_of_ble_eq_true rfl⟩ rfl (Nat.le_of_ble_eq_true rfl) ?_
  have C := zCT_p C (zBud_r hB); have hQ := hp _ hQ; have hB := zBud_p hB
  refine z_bipush (v := (-72 : Int32)) C dL_refuses_156 (by decide) ?_
  refine z_icmp_ne (tgt := 273) C dL_refuses_158 (by decide) (fun c => absurd (by decide) c) (fun _ => ?_)
  refine z_aload_n C dL_refuses_161 rfl 10 rfl ?_
  refine z_bipush (v := (15 : Int32)) C dL_refuses_162 (by decide) ?_
  refine z_iconst (v := (1 : Int32)) C dL_refuses_164 (by decide) ?_
  refine z_iload C dL_refuses_165 3 rfl ?_
  refine z_iconst (v := (0 : Int32)) C dL_refuses_167 (by decide) ?_
  refine z_lS C 5 [.ref (ad 0), .int (15 : Int32), .int (1 : Int32), .int (-1 : Int32), .int (0 : Int32)] [] (zBud_r hB) (cL_define_x1 (zC_I C) (zC_st C) (n := 130) (R_def3 (by decide) (by decide) (by decide) (by decide))) gL_refuses_L_define (by decide +kernel) rfl dL_refuses_168 rfl ⟨Nat.le_of_ble_eq_true rfl, Nat.le_of_ble_eq_true rfl⟩ rfl (Nat.le_of_ble_eq_true rfl) ?_
  have C := zCT_p C (zBud_r hB); have hQ := hp _ hQ; have hB := zBud_p hB
  refine z_bipush (v := (-71 : Int32)) C dL_refuses_171 (by decide) ?_
  refine z_icmp_ne (tgt := 273) C dL_refuses_173 (by decide) (fun c => absurd (by decide) c) (fun _ => ?_)
  refine z_aload_n C dL_refuses_176 rfl 10 rfl ?_
  refine z_bipush (v := (15 : Int32)) C dL_refuses_177 (by decide) ?_
  refine z_iconst (v := (1 : Int32)) C dL_refuses_179 (by decide) ?_
  refine z_iconst (v := (0 : Int32)) C dL_refuses_180 (by decide) ?_
  refine z_iload C dL_refuses_181 3 rfl ?_
  refine z_lS C 5 [.ref (ad 0), .int (15 : Int32), .int (1 : Int32), .int (0 : Int32), .int (-1 : Int32)] [] (zBud_r hB) (cL_define_x1 (zC_I C) (zC_st C) (n := 130) (R_def4 (by decide) (by decide) (by decide) (by decide) rfl (by decide))) gL_refuses_L_define (by decide +kernel) rfl dL_refuses_183 rfl ⟨Nat.le_of_ble_eq_true rfl, Nat.le_of_ble_eq_true rfl⟩ rfl (Nat.le_of_ble_eq_true rfl) ?_
  have C := zCT_p C (zBud_r hB); have hQ := hp _ hQ; have hB := zBud_p hB
  refine z_bipush (v := (-71 : Int32)) C dL_refuses_186 (by decide) ?_
  refine z_icmp_ne (tgt := 273) C dL_refuses_188 (by decide) (fun c => absurd (by decide) c) (fun _ => ?_)
  refine z_aload_n C dL_refuses_191 rfl 10 rfl ?_
  refine z_bipush (v := (15 : Int32)) C dL_refuses_192 (by decide) ?_
  refine z_iconst (v := (3 : Int32)) C dL_refuses_194 (by decide) ?_
  refine z_iload C dL_refuses_195 3 rfl ?_
  refine z_iconst (v := (-1 : Int32)) C dL_refuses_197 (by decide) ?_
  refine z_lS C 5 [.ref (ad 0), .int (15 : Int32), .int (3 : Int32), .int (-1 : Int32), .int (-1 : Int32)] [] (zBud_r hB) (cL_define_x1 (zC_I C) (zC_st C) (n := 130) (R_def3 (by decide) (by decide) (by decide) (by decide))) gL_refuses_L_define (by decide +kernel) rfl dL_refuses_198 rfl ⟨Nat.le_of_ble_eq_true rfl, Nat.le_of_ble_eq_true rfl⟩ rfl (Nat.le_of_ble_eq_true rfl) ?_
  have C := zCT_p C (zBud_r hB); have hQ := hp _ hQ; have hB := zBud_p hB
  refine z_bipush (v := (-71 : Int32)) C dL_refuses_201 (by decide) ?_
  refine z_icmp_ne (tgt := 273) C dL_refuses_203 (by decide) (fun c => absurd (by decide) c) (fun _ => ?_)
  refine z_aload_n C dL_refuses_206 rfl 10 rfl ?_
  refine z_bipush (v := (15 : Int32)) C dL_refuses_207 (by decide) ?_
  refine z_iconst (v := (3 : Int32)) C dL_refuses_209 (by decide) ?_
  refine z_iconst (v := (0 : Int32)) C dL_refuses_210 (by decide) ?_
  refine z_iload C dL_refuses_211 0 rfl ?_
  refine z_lS C 5 [.ref (ad 0), .int (15 : Int32), .int (3 : Int32), .int (0 : Int32), .int (-1 : Int32)] [] (zBud_r hB) (cL_define_x2 (zC_I C) (zC_st C) (n := 130) (R_def5 (by decide) (by decide) (by decide))) gL_refuses_L_define (by decide +kernel) rfl dL_refuses_213 rfl ⟨Nat.le_of_ble_eq_true rfl, Nat.le_of_ble_eq_true rfl⟩ rfl (Nat.le_of_ble_eq_true rfl) ?_
  have C := zCT_p C (zBud_r hB); have hQ := hp _ hQ; have hB := zBud_p hB
  refine z_bipush (v := (-72 : Int32)) C dL_refuses_216 (by decide) ?_
  refine z_icmp_ne (tgt := 273) C dL_refuses_218 (by decide) (fun c => absurd (by decide) c) (fun _ => ?_)
  refine z_aload_n C dL_refuses_221 rfl 10 rfl ?_
  refine z_bipush (v := (15 : Int32)) C dL_refuses_222 (by decide) ?_
  refine z_bipush (v := (6 : Int32)) C dL_refuses_224 (by decide) ?_
  refine z_iload C dL_refuses_226 3 rfl ?_
  refine z_iconst (v := (0 : Int32)) C dL_refuses_228 (by decide) ?_
  refine z_lS C 5 [.ref (ad 0), .int (15 : Int32), .int (6 : Int32), .int (-1 : Int32), .int (0 : Int32)] [] (zBud_r hB) (cL_define_x1 (zC_I C) (zC_st C) (n := 130) (R_def3 (by decide) (by decide) (by decide) (by decide))) gL_refuses_L_define (by decide +kernel) rfl dL_refuses_229 rfl ⟨Nat.le_of_ble_eq_true rfl, Nat.le_of_ble_eq_true rfl⟩ rfl (Nat.le_of_ble_eq_true rfl) ?_
  have C := zCT_p C (zBud_r hB); have hQ := hp _ hQ; have hB := zBud_p hB
  refine z_bipush (v := (-71 : Int32)) C dL_refuses_232 (by decide) ?_
  refine z_icmp_ne (tgt := 273) C dL_refuses_234 (by decide) (fun c => absurd (by decide) c) (fun _ => ?_)
  exact kk _ C hQ hB
set_option maxRecDepth 100000 in
set_option maxHeartbeats 4000000 in
theorem wL_refuses_1 {h : zH} {ad : Nat → Nat} {G : zG} (C : zCT [] h ad zLX 12 G cL_refuses RL wsL_refuses 10 210) {QQ : zG → Prop} (hp : ∀ G, QQ G → QQ (zGp G)) (hQ : QQ G) {f : Nat} (hB : zBud G (f + 7)) {s1 : zS} {y c v : Int32} (hRI : zRI s1 y) (hc : ¬ (y ≤ y - 1 ∧ y - 1 ≤ y + 20) ∧ ¬ (y ≤ y + 21 ∧ y + 21 ≤ y + 20) ∧ ¬ (y ≤ 2147483647 ∧ (2147483647 : Int32) ≤ y + 20) ∧ ¬ (y ≤ -2147483648 ∧ (-2147483648 : Int32) ≤ y + 20)) (kk : ∀ G, zCT [] h ad zLX 12 G cL_refuses RL wsL_refuses 10 210 → QQ G → zBud G f → zV h ad zLX 12 G s1 347 [(11, .int (1 : Int32)), (10, .int (-1 : Int32)), (9, .int (-1 : Int32)), (8, .int (-1 : Int32)), (7, .int (-1 : Int32)), (6, .int (-1 : Int32)), (5, .int (0 : Int32)), (4, .int (2147483647 : Int32)), (3, .int v), (2, .int c), (1, .int y), (0, .ref (ad 0))] []) : zV h ad zLX 12 G s1 237 [(10, .int (-1 : Int32)), (9, .int (-1 : Int32)), (8, .int (-1 : Int32)), (7, .int (-1 : Int32)), (6, .int (-1 : Int32)), (5, .int (0 : Int32)), (4, .int (2147483647 : Int32)), (3, .int v), (2, .int c), (1, .int y), (0, .ref (ad 0))] [] := by
  refine z_aload_n C dL_refuses_237 rfl 10 rfl ?_
  refine z_bipush (v := (15 : Int32)) C dL_refuses_238 (by decide) ?_
  refine z_bipush (v := (8 : Int32)) C dL_refuses_240 (by decide) ?_
  refine z_iconst (v := (0 : Int32)) C dL_refuses_242 (by decide) ?_
  refine z_iload C dL_refuses_243 3 rfl ?_
  refine z_lS C 5 [.ref (ad 0), .int (15 : Int32), .int (8 : Int32), .int (0 : Int32), .int (-1 : Int32)] [] (zBud_r hB) (cL_define_x1 (zC_I C) (zC_st C) (n := 130) (R_def4 (by decide) (by decide) (by decide) (by decide) rfl (by decide))) gL_refuses_L_define (by decide +kernel) rfl dL_refuses_245 rfl ⟨Nat.le_of_ble_eq_true rfl, Nat.le_of_ble_eq_true rfl⟩ rfl (Nat.le_of_ble_eq_true rfl) ?_
  have C := zCT_p C (zBud_r hB); have hQ := hp _ hQ; have hB := zBud_p hB
  refine z_bipush (v := (-71 : Int32)) C dL_refuses_248 (by decide) ?_
  refine z_icmp_ne (tgt := 273) C dL_refuses_250 (by decide) (fun c => absurd (by decide) c) (fun _ => ?_)
  refine z_aload_n C dL_refuses_253 rfl 10 rfl ?_
  refine z_bipush (v := (15 : Int32)) C dL_refuses_254 (by decide) ?_
  refine z_bipush (v := (7 : Int32)) C dL_refuses_256 (by decide) ?_
  refine z_iload C dL_refuses_258 3 rfl ?_
  refine z_iconst (v := (0 : Int32)) C dL_refuses_260 (by decide) ?_
  refine z_lS C 5 [.ref (ad 0), .int (15 : Int32), .int (7 : Int32), .int (-1 : Int32), .int (0 : Int32)] [] (zBud_r hB) (cL_define_x1 (zC_I C) (zC_st C) (n := 130) (R_def3 (by decide) (by decide) (by decide) (by decide))) gL_refuses_L_define (by decide +kernel) rfl dL_refuses_261 rfl ⟨Nat.le_of_ble_eq_true rfl, Nat.le_of_ble_eq_true rfl⟩ rfl (Nat.le_of_ble_eq_true rfl) ?_
  have C := zCT_p C (zBud_r hB); have hQ := hp _ hQ; have hB := zBud_p hB
  refine z_bipush (v := (-71 : Int32)) C dL_refuses_264 (by decide) ?_
  refine z_icmp_ne (tgt := 273) C dL_refuses_266 (by decide) (fun c => absurd (by decide) c) (fun _ => ?_)
  refine z_iconst (v := (1 : Int32)) C dL_refuses_269 (by decide) ?_
  refine z_goto (tgt := 274) C dL_refuses_270 (by decide) ?_
  refine z_istore (y := (1 : Int32)) (lv' := [(11, .int (1 : Int32)), (10, .int (-1 : Int32)), (9, .int (-1 : Int32)), (8, .int (-1 : Int32)), (7, .int (-1 : Int32)), (6, .int (-1 : Int32)), (5, .int (0 : Int32)), (4, .int (2147483647 : Int32)), (3, .int v), (2, .int c), (1, .int y), (0, .ref (ad 0))]) C dL_refuses_274 (by decide) rfl rfl ?_
  refine z_iload C dL_refuses_276 0 rfl ?_
  refine z_if_eq (tgt := 498) C dL_refuses_278 (by decide) (fun c => absurd c (by decide)) (fun _ => ?_)
  refine z_aload_n C dL_refuses_281 rfl 11 rfl ?_
  refine z_iconst (v := (0 : Int32)) C dL_refuses_282 (by decide) ?_
  refine z_iload C dL_refuses_283 4 rfl ?_
  refine z_iconst (v := (-1 : Int32)) C dL_refuses_285 (by decide) ?_
  refine z_lS C 4 [.ref (ad 0), .int (0 : Int32), .int (-1 : Int32), .int (-1 : Int32)] [] (zBud_r hB) (cL_act_answer_x1 (zC_I C) (zC_st C) (n := 130) (R_answer1 (by decide))) gL_refuses_L_act (by decide +kernel) rfl dL_refuses_286 rfl ⟨Nat.le_of_ble_eq_true rfl, Nat.le_of_ble_eq_true rfl⟩ rfl (Nat.le_of_ble_eq_true rfl) ?_
  have C := zCT_p C (zBud_r hB); have hQ := hp _ hQ; have hB := zBud_p hB
  refine z_bipush (v := (-71 : Int32)) C dL_refuses_289 (by decide) ?_
  refine z_icmp_ne (tgt := 498) C dL_refuses_291 (by decide) (fun c => absurd (by decide) c) (fun _ => ?_)
  refine z_aload_n C dL_refuses_294 rfl 11 rfl ?_
  refine z_iconst (v := (0 : Int32)) C dL_refuses_295 (by decide) ?_
  refine z_bipush (v := (15 : Int32)) C dL_refuses_296 (by decide) ?_
  refine z_iload C dL_refuses_298 2 rfl ?_
  refine z_lS C 4 [.ref (ad 0), .int (0 : Int32), .int (15 : Int32), .int (-1 : Int32)] [] (zBud_r hB) (cL_act_answer_x2 (zC_I C) (zC_st C) (n := 130) (R_answer2 (by decide) (by decide))) gL_refuses_L_act (by decide +kernel) rfl dL_refuses_300 rfl ⟨Nat.le_of_ble_eq_true rfl, Nat.le_of_ble_eq_true rfl⟩ rfl (Nat.le_of_ble_eq_true rfl) ?_
  have C := zCT_p C (zBud_r hB); have hQ := hp _ hQ; have hB := zBud_p hB
  refine z_bipush (v := (-72 : Int32)) C dL_refuses_303 (by decide) ?_
  refine z_icmp_ne (tgt := 498) C dL_refuses_305 (by decide) (fun c => absurd (by decide) c) (fun _ => ?_)
  refine z_aload_n C dL_refuses_308 rfl 11 rfl ?_
  refine z_iconst (v := (1 : Int32)) C dL_refuses_309 (by decide) ?_
  refine z_iload C dL_refuses_310 4 rfl ?_
  refine z_iconst (v := (0 : Int32)) C dL_refuses_312 (by decide) ?_
  refine z_lS C 4 [.ref (ad 0), .int (1 : Int32), .int (-1 : Int32), .int (0 : Int32)] [] (zBud_r hB) (cL_act_kindOf_x1 (zC_I C) (zC_st C) (n := 130) (R_kindOf (by decide))) gL_refuses_L_act (by decide +kernel) rfl dL_refuses_313 rfl ⟨Nat.le_of_ble_eq_true rfl, Nat.le_of_ble_eq_true rfl⟩ rfl (Nat.le_of_ble_eq_true rfl) ?_
  have C := zCT_p C (zBud_r hB); have hQ := hp _ hQ; have hB := zBud_p hB
  refine z_bipush (v := (-71 : Int32)) C dL_refuses_316 (by decide) ?_
  refine z_icmp_ne (tgt := 498) C dL_refuses_318 (by decide) (fun c => absurd (by decide) c) (fun _ => ?_)
  refine z_aload_n C dL_refuses_321 rfl 11 rfl ?_
  refine z_iconst (v := (2 : Int32)) C dL_refuses_322 (by decide) ?_
  refine z_iload C dL_refuses_323 4 rfl ?_
  refine z_iconst (v := (0 : Int32)) C dL_refuses_325 (by decide) ?_
  refine z_lS C 4 [.ref (ad 0), .int (2 : Int32), .int (-1 : Int32), .int (0 : Int32)] [] (zBud_r hB) (cL_act_value_x1 (zC_I C) (zC_st C) (n := 130) (R_value (by decide))) gL_refuses_L_act (by decide +kernel) rfl dL_refuses_326 rfl ⟨Nat.le_of_ble_eq_true rfl, Nat.le_of_ble_eq_true rfl⟩ rfl (Nat.le_of_ble_eq_true rfl) ?_
  have C := zCT_p C (zBud_r hB); have hQ := hp _ hQ; have hB := zBud_p hB
  refine z_bipush (v := (-71 : Int32)) C dL_refuses_329 (by decide) ?_
  refine z_icmp_ne (tgt := 498) C dL_refuses_331 (by decide) (fun c => absurd (by decide) c) (fun _ => ?_)
  refine z_aload_n C dL_refuses_334 rfl 11 rfl ?_
  refine z_iconst (v := (3 : Int32)) C dL_refuses_335 (by decide) ?_
  refine z_iload C dL_refuses_336 4 rfl ?_
  refine z_iconst (v := (-1 : Int32)) C dL_refuses_338 (by decide) ?_
  refine z_lS C 4 [.ref (ad 0), .int (3 : Int32), .int (-1 : Int32), .int (-1 : Int32)] [] (zBud_r hB) (cL_act_boundFor_x1 (zC_I C) (zC_st C) (n := 130) (R_boundFor1 (by decide))) gL_refuses_L_act (by decide +kernel) rfl dL_refuses_339 rfl ⟨Nat.le_of_ble_eq_true rfl, Nat.le_of_ble_eq_true rfl⟩ rfl (Nat.le_of_ble_eq_true rfl) ?_
  have C := zCT_p C (zBud_r hB); have hQ := hp _ hQ; have hB := zBud_p hB
  refine z_bipush (v := (-71 : Int32)) C dL_refuses_342 (by decide) ?_
  refine z_icmp_ne (tgt := 498) C dL_refuses_344 (by decide) (fun c => absurd (by decide) c) (fun _ => ?_)
  exact kk _ C hQ hB
set_option maxRecDepth 100000 in
set_option maxHeartbeats 4000000 in
theorem wL_refuses_2 {h : zH} {ad : Nat → Nat} {G : zG} (C : zCT [] h ad zLX 12 G cL_refuses RL wsL_refuses 10 210) {QQ : zG → Prop} (hp : ∀ G, QQ G → QQ (zGp G)) (hQ : QQ G) {f : Nat} (hB : zBud G (f + 7)) {s1 : zS} {y c v : Int32} (hRI : zRI s1 y) (hc : ¬ (y ≤ y - 1 ∧ y - 1 ≤ y + 20) ∧ ¬ (y ≤ y + 21 ∧ y + 21 ≤ y + 20) ∧ ¬ (y ≤ 2147483647 ∧ (2147483647 : Int32) ≤ y + 20) ∧ ¬ (y ≤ -2147483648 ∧ (-2147483648 : Int32) ≤ y + 20)) (kk : ∀ G, zCT [] h ad zLX 12 G cL_refuses RL wsL_refuses 10 210 → QQ G → zBud G f → zV h ad zLX 12 G s1 452 [(11, .int (1 : Int32)), (10, .int (-1 : Int32)), (9, .int (-1 : Int32)), (8, .int (-1 : Int32)), (7, .int (-1 : Int32)), (6, .int (-1 : Int32)), (5, .int (0 : Int32)), (4, .int (2147483647 : Int32)), (3, .int v), (2, .int c), (1, .int y), (0, .ref (ad 0))] []) : zV h ad zLX 12 G s1 347 [(11, .int (1 : Int32)), (10, .int (-1 : Int32)), (9, .int (-1 : Int32)), (8, .int (-1 : Int32)), (7, .int (-1 : Int32)), (6, .int (-1 : Int32)), (5, .int (0 : Int32)), (4, .int (2147483647 : Int32)), (3, .int v), (2, .int c), (1, .int y), (0, .ref (ad 0))] [] := by
  refine z_aload_n C dL_refuses_347 rfl 11 rfl ?_
  refine z_iconst (v := (3 : Int32)) C dL_refuses_348 (by decide) ?_
  refine z_bipush (v := (15 : Int32)) C dL_refuses_349 (by decide) ?_
  refine z_iload C dL_refuses_351 3 rfl ?_
  refine z_lS C 4 [.ref (ad 0), .int (3 : Int32), .int (15 : Int32), .int (-1 : Int32)] [] (zBud_r hB) (cL_act_boundFor_x2 (zC_I C) (zC_st C) (n := 130) (R_boundFor2 (by decide) (by decide))) gL_refuses_L_act (by decide +kernel) rfl dL_refuses_353 rfl ⟨Nat.le_of_ble_eq_true rfl, Nat.le_of_ble_eq_true rfl⟩ rfl (Nat.le_of_ble_eq_true rfl) ?_
  have C := zCT_p C (zBud_r hB); have hQ := hp _ hQ; have hB := zBud_p hB
  refine z_bipush (v := (-72 : Int32)) C dL_refuses_356 (by decide) ?_
  refine z_icmp_ne (tgt := 498) C dL_refuses_358 (by decide) (fun c => absurd (by decide) c) (fun _ => ?_)
  refine z_aload_n C dL_refuses_361 rfl 11 rfl ?_
  refine z_iconst (v := (3 : Int32)) C dL_refuses_362 (by decide) ?_
  refine z_bipush (v := (15 : Int32)) C dL_refuses_363 (by decide) ?_
  refine z_iconst (v := (0 : Int32)) C dL_refuses_365 (by decide) ?_
  refine z_lS C 4 [.ref (ad 0), .int (3 : Int32), .int (15 : Int32), .int (0 : Int32)] [] (zBud_r hB) (cL_act_boundFor_x3 (zC_I C) (zC_st C) (n := 130) (R_boundFor3 hRI)) gL_refuses_L_act (by decide +kernel) rfl dL_refuses_366 rfl ⟨Nat.le_of_ble_eq_true rfl, Nat.le_of_ble_eq_true rfl⟩ rfl (Nat.le_of_ble_eq_true rfl) ?_
  have C := zCT_p C (zBud_r hB); have hQ := hp _ hQ; have hB := zBud_p hB
  refine z_bipush (v := (-73 : Int32)) C dL_refuses_369 (by decide) ?_
  refine z_icmp_ne (tgt := 498) C dL_refuses_371 (by decide) (fun c => absurd (by decide) c) (fun _ => ?_)
  refine z_aload_n C dL_refuses_374 rfl 11 rfl ?_
  refine z_iconst (v := (4 : Int32)) C dL_refuses_375 (by decide) ?_
  refine z_iload C dL_refuses_376 4 rfl ?_
  refine z_iconst (v := (0 : Int32)) C dL_refuses_378 (by decide) ?_
  refine z_lS C 4 [.ref (ad 0), .int (4 : Int32), .int (-1 : Int32), .int (0 : Int32)] [] (zBud_r hB) (cL_act_dependsOn_x1 (zC_I C) (zC_st C) (n := 130) (R_dependsOn1 (by decide))) gL_refuses_L_act (by decide +kernel) rfl dL_refuses_379 rfl ⟨Nat.le_of_ble_eq_true rfl, Nat.le_of_ble_eq_true rfl⟩ rfl (Nat.le_of_ble_eq_true rfl) ?_
  have C := zCT_p C (zBud_r hB); have hQ := hp _ hQ; have hB := zBud_p hB
  refine z_bipush (v := (-71 : Int32)) C dL_refuses_382 (by decide) ?_
  refine z_icmp_ne (tgt := 498) C dL_refuses_384 (by decide) (fun c => absurd (by decide) c) (fun _ => ?_)
  refine z_aload_n C dL_refuses_387 rfl 11 rfl ?_
  refine z_iconst (v := (4 : Int32)) C dL_refuses_388 (by decide) ?_
  refine z_iconst (v := (0 : Int32)) C dL_refuses_389 (by decide) ?_
  refine z_iload C dL_refuses_390 4 rfl ?_
  refine z_lS C 4 [.ref (ad 0), .int (4 : Int32), .int (0 : Int32), .int (-1 : Int32)] [] (zBud_r hB) (cL_act_dependsOn_x1 (zC_I C) (zC_st C) (n := 130) (R_dependsOn2 (by decide) (by decide))) gL_refuses_L_act (by decide +kernel) rfl dL_refuses_392 rfl ⟨Nat.le_of_ble_eq_true rfl, Nat.le_of_ble_eq_true rfl⟩ rfl (Nat.le_of_ble_eq_true rfl) ?_
  have C := zCT_p C (zBud_r hB); have hQ := hp _ hQ; have hB := zBud_p hB
  refine z_bipush (v := (-71 : Int32)) C dL_refuses_395 (by decide) ?_
  refine z_icmp_ne (tgt := 498) C dL_refuses_397 (by decide) (fun c => absurd (by decide) c) (fun _ => ?_)
  refine z_aload_n C dL_refuses_400 rfl 11 rfl ?_
  refine z_iconst (v := (5 : Int32)) C dL_refuses_401 (by decide) ?_
  refine z_iload C dL_refuses_402 4 rfl ?_
  refine z_iconst (v := (0 : Int32)) C dL_refuses_404 (by decide) ?_
  refine z_lS C 4 [.ref (ad 0), .int (5 : Int32), .int (-1 : Int32), .int (0 : Int32)] [] (zBud_r hB) (cL_act_influence_x1 (zC_I C) (zC_st C) (n := 130) (R_influence (by decide))) gL_refuses_L_act (by decide +kernel) rfl dL_refuses_405 rfl ⟨Nat.le_of_ble_eq_true rfl, Nat.le_of_ble_eq_true rfl⟩ rfl (Nat.le_of_ble_eq_true rfl) ?_
  have C := zCT_p C (zBud_r hB); have hQ := hp _ hQ; have hB := zBud_p hB
  refine z_bipush (v := (-71 : Int32)) C dL_refuses_408 (by decide) ?_
  refine z_icmp_ne (tgt := 498) C dL_refuses_410 (by decide) (fun c => absurd (by decide) c) (fun _ => ?_)
  refine z_aload_n C dL_refuses_413 rfl 11 rfl ?_
  refine z_bipush (v := (6 : Int32)) C dL_refuses_414 (by decide) ?_
  refine z_iload C dL_refuses_416 4 rfl ?_
  refine z_iconst (v := (0 : Int32)) C dL_refuses_418 (by decide) ?_
  refine z_lS C 4 [.ref (ad 0), .int (6 : Int32), .int (-1 : Int32), .int (0 : Int32)] [] (zBud_r hB) (cL_act_why_x1 (zC_I C) (zC_st C) (n := 130) (R_why1 (by decide))) gL_refuses_L_act (by decide +kernel) rfl dL_refuses_419 rfl ⟨Nat.le_of_ble_eq_true rfl, Nat.le_of_ble_eq_true rfl⟩ rfl (Nat.le_of_ble_eq_true rfl) ?_
  have C := zCT_p C (zBud_r hB); have hQ := hp _ hQ; have hB := zBud_p hB
  refine z_bipush (v := (-71 : Int32)) C dL_refuses_422 (by decide) ?_
  refine z_icmp_ne (tgt := 498) C dL_refuses_424 (by decide) (fun c => absurd (by decide) c) (fun _ => ?_)
  refine z_aload_n C dL_refuses_427 rfl 11 rfl ?_
  refine z_bipush (v := (6 : Int32)) C dL_refuses_428 (by decide) ?_
  refine z_iconst (v := (0 : Int32)) C dL_refuses_430 (by decide) ?_
  refine z_iload C dL_refuses_431 6 rfl ?_
  refine z_iconst (v := (2 : Int32)) C dL_refuses_433 (by decide) ?_
  refine z_icmp_ge (tgt := 441) C dL_refuses_434 (by decide) (fun c => absurd c (by decide)) (fun _ => ?_)
  refine z_iconst (v := (-1 : Int32)) C dL_refuses_437 (by decide) ?_
  refine z_goto (tgt := 444) C dL_refuses_438 (by decide) ?_
  refine z_lS C 4 [.ref (ad 0), .int (6 : Int32), .int (0 : Int32), .int (-1 : Int32)] [] (zBud_r hB) (cL_act_why_x1 (zC_I C) (zC_st C) (n := 130) (R_why2 (by decide) (by decide))) gL_refuses_L_act (by decide +kernel) rfl dL_refuses_444 rfl ⟨Nat.le_of_ble_eq_true rfl, Nat.le_of_ble_eq_true rfl⟩ rfl (Nat.le_of_ble_eq_true rfl) ?_
  have C := zCT_p C (zBud_r hB); have hQ := hp _ hQ; have hB := zBud_p hB
  refine z_bipush (v := (-71 : Int32)) C dL_refuses_447 (by decide) ?_
  refine z_icmp_ne (tgt := 498) C dL_refuses_449 (by decide) (fun c => absurd (by decide) c) (fun _ => ?_)
  exact kk _ C hQ hB
set_option maxRecDepth 100000 in
set_option maxHeartbeats 4000000 in
theorem wL_refuses_3 {h : zH} {ad : Nat → Nat} {G : zG} (C : zCT [] h ad zLX 12 G cL_refuses RL wsL_refuses 10 210) {QQ : zG → Prop} (hp : ∀ G, QQ G → QQ (zGp G)) (hQ : QQ G) {f : Nat} (hB : zBud G (f + 7)) {s1 : zS} {y c v : Int32} (hRI : zRI s1 y) (hc : ¬ (y ≤ y - 1 ∧ y - 1 ≤ y + 20) ∧ ¬ (y ≤ y + 21 ∧ y + 21 ≤ y + 20) ∧ ¬ (y ≤ 2147483647 ∧ (2147483647 : Int32) ≤ y + 20) ∧ ¬ (y ≤ -2147483648 ∧ (-2147483648 : Int32) ≤ y + 20)) (kk : ∀ G, zCT [] h ad zLX 12 G cL_refuses RL wsL_refuses 10 210 → QQ G → zBud G f → zV h ad zLX 12 G s1 615 [(11, .int (1 : Int32)), (10, .int (-1 : Int32)), (9, .int (-1 : Int32)), (8, .int (-1 : Int32)), (7, .int (-1 : Int32)), (6, .int (-1 : Int32)), (5, .int (0 : Int32)), (4, .int (2147483647 : Int32)), (3, .int v), (2, .int c), (1, .int y), (0, .ref (ad 0))] []) : zV h ad zLX 12 G s1 452 [(11, .int (1 : Int32)), (10, .int (-1 : Int32)), (9, .int (-1 : Int32)), (8, .int (-1 : Int32)), (7, .int (-1 : Int32)), (6, .int (-1 : Int32)), (5, .int (0 : Int32)), (4, .int (2147483647 : Int32)), (3, .int v), (2, .int c), (1, .int y), (0, .ref (ad 0))] [] := by
  refine z_aload_n C dL_refuses_452 rfl 11 rfl ?_
  refine z_bipush (v := (7 : Int32)) C dL_refuses_453 (by decide) ?_
  refine z_iload C dL_refuses_455 2 rfl ?_
  refine z_iconst (v := (0 : Int32)) C dL_refuses_457 (by decide) ?_
  refine z_lS C 4 [.ref (ad 0), .int (7 : Int32), .int (-1 : Int32), .int (0 : Int32)] [] (zBud_r hB) (cL_act_bracket_x2 (zC_I C) (zC_st C) (n := 130) (R_bracket1 (by decide))) gL_refuses_L_act (by decide +kernel) rfl dL_refuses_458 rfl ⟨Nat.le_of_ble_eq_true rfl, Nat.le_of_ble_eq_true rfl⟩ rfl (Nat.le_of_ble_eq_true rfl) ?_
  have C := zCT_p C (zBud_r hB); have hQ := hp _ hQ; have hB := zBud_p hB
  refine z_bipush (v := (-72 : Int32)) C dL_refuses_461 (by decide) ?_
  refine z_icmp_ne (tgt := 498) C dL_refuses_463 (by decide) (fun c => absurd (by decide) c) (fun _ => ?_)
  refine z_aload_n C dL_refuses_466 rfl 11 rfl ?_
  refine z_bipush (v := (7 : Int32)) C dL_refuses_467 (by decide) ?_
  refine z_iconst (v := (0 : Int32)) C dL_refuses_469 (by decide) ?_
  refine z_iload C dL_refuses_470 1 rfl ?_
  refine z_lS C 4 [.ref (ad 0), .int (7 : Int32), .int (0 : Int32), .int (-1 : Int32)] [] (zBud_r hB) (cL_act_bracket_x2 (zC_I C) (zC_st C) (n := 130) (R_bracket2 (by decide) (by decide))) gL_refuses_L_act (by decide +kernel) rfl dL_refuses_472 rfl ⟨Nat.le_of_ble_eq_true rfl, Nat.le_of_ble_eq_true rfl⟩ rfl (Nat.le_of_ble_eq_true rfl) ?_
  have C := zCT_p C (zBud_r hB); have hQ := hp _ hQ; have hB := zBud_p hB
  refine z_bipush (v := (-72 : Int32)) C dL_refuses_475 (by decide) ?_
  refine z_icmp_ne (tgt := 498) C dL_refuses_477 (by decide) (fun c => absurd (by decide) c) (fun _ => ?_)
  refine z_aload_n C dL_refuses_480 rfl 11 rfl ?_
  refine z_bipush (v := (8 : Int32)) C dL_refuses_481 (by decide) ?_
  refine z_iload C dL_refuses_483 3 rfl ?_
  refine z_iconst (v := (0 : Int32)) C dL_refuses_485 (by decide) ?_
  refine z_lS C 4 [.ref (ad 0), .int (8 : Int32), .int (-1 : Int32), .int (0 : Int32)] [] (zBud_r hB) (cL_act_taxOn_x2 (zC_I C) (zC_st C) (n := 130) (R_taxOn (by decide))) gL_refuses_L_act (by decide +kernel) rfl dL_refuses_486 rfl ⟨Nat.le_of_ble_eq_true rfl, Nat.le_of_ble_eq_true rfl⟩ rfl (Nat.le_of_ble_eq_true rfl) ?_
  have C := zCT_p C (zBud_r hB); have hQ := hp _ hQ; have hB := zBud_p hB
  refine z_bipush (v := (-72 : Int32)) C dL_refuses_489 (by decide) ?_
  refine z_icmp_ne (tgt := 498) C dL_refuses_491 (by decide) (fun c => absurd (by decide) c) (fun _ => ?_)
  refine z_iconst (v := (1 : Int32)) C dL_refuses_494 (by decide) ?_
  refine z_goto (tgt := 499) C dL_refuses_495 (by decide) ?_
  refine z_istore (y := (1 : Int32)) (lv' := [(11, .int (1 : Int32)), (10, .int (-1 : Int32)), (9, .int (-1 : Int32)), (8, .int (-1 : Int32)), (7, .int (-1 : Int32)), (6, .int (-1 : Int32)), (5, .int (0 : Int32)), (4, .int (2147483647 : Int32)), (3, .int v), (2, .int c), (1, .int y), (0, .ref (ad 0))]) C dL_refuses_499 (by decide) rfl rfl ?_
  refine z_iload C dL_refuses_501 0 rfl ?_
  refine z_if_eq (tgt := 699) C dL_refuses_503 (by decide) (fun c => absurd c (by decide)) (fun _ => ?_)
  refine z_aload_n C dL_refuses_506 rfl 11 rfl ?_
  refine z_bipush (v := (9 : Int32)) C dL_refuses_507 (by decide) ?_
  refine z_iload C dL_refuses_509 6 rfl ?_
  refine z_if_ne (tgt := 518) C dL_refuses_511 (by decide) (fun c => absurd (by decide) c) (fun _ => ?_)
  refine z_iconst (v := (0 : Int32)) C dL_refuses_514 (by decide) ?_
  refine z_goto (tgt := 520) C dL_refuses_515 (by decide) ?_
  refine z_iload_n C dL_refuses_520 rfl 10 rfl ?_
  refine z_lS C 4 [.ref (ad 0), .int (9 : Int32), .int (0 : Int32), .int y] [] (zBud_r hB) (cL_act_carry_x2 (zC_I C) (zC_st C) (n := 130) (R_carry1 (by decide))) gL_refuses_L_act (by decide +kernel) rfl dL_refuses_521 rfl ⟨Nat.le_of_ble_eq_true rfl, Nat.le_of_ble_eq_true rfl⟩ rfl (Nat.le_of_ble_eq_true rfl) ?_
  have C := zCT_p C (zBud_r hB); have hQ := hp _ hQ; have hB := zBud_p hB
  refine z_bipush (v := (-72 : Int32)) C dL_refuses_524 (by decide) ?_
  refine z_icmp_ne (tgt := 699) C dL_refuses_526 (by decide) (fun c => absurd (by decide) c) (fun _ => ?_)
  refine z_aload_n C dL_refuses_529 rfl 11 rfl ?_
  refine z_bipush (v := (9 : Int32)) C dL_refuses_530 (by decide) ?_
  refine z_iconst (v := (5 : Int32)) C dL_refuses_532 (by decide) ?_
  refine z_iload C dL_refuses_533 6 rfl ?_
  refine z_if_ne (tgt := 544) C dL_refuses_535 (by decide) (fun c => absurd (by decide) c) (fun _ => ?_)
  refine z_iload_n C dL_refuses_538 rfl 10 rfl ?_
  refine z_iconst (v := (1 : Int32)) C dL_refuses_539 (by decide) ?_
  refine z_isub C dL_refuses_540 ?_
  refine z_goto (tgt := 559) C dL_refuses_541 (by decide) ?_
  refine z_lS C 4 [.ref (ad 0), .int (9 : Int32), .int (5 : Int32), .int (y - (1 : Int32))] [] (zBud_r hB) (cL_act_carry_x2 (zC_I C) (zC_st C) (n := 130) (R_carry2 (by decide) (by rw [hRI.2.1]; exact hc.1))) gL_refuses_L_act (by decide +kernel) rfl dL_refuses_559 rfl ⟨Nat.le_of_ble_eq_true rfl, Nat.le_of_ble_eq_true rfl⟩ rfl (Nat.le_of_ble_eq_true rfl) ?_
  have C := zCT_p C (zBud_r hB); have hQ := hp _ hQ; have hB := zBud_p hB
  refine z_bipush (v := (-72 : Int32)) C dL_refuses_562 (by decide) ?_
  refine z_icmp_ne (tgt := 699) C dL_refuses_564 (by decide) (fun c => absurd (by decide) c) (fun _ => ?_)
  refine z_aload_n C dL_refuses_567 rfl 11 rfl ?_
  refine z_bipush (v := (10 : Int32)) C dL_refuses_568 (by decide) ?_
  refine z_iload C dL_refuses_570 6 rfl ?_
  refine z_iconst (v := (1 : Int32)) C dL_refuses_572 (by decide) ?_
  refine z_icmp_ne (tgt := 581) C dL_refuses_573 (by decide) (fun _ => ?_) (fun c => absurd c (by decide))
  refine z_iload C dL_refuses_581 5 rfl ?_
  refine z_iconst (v := (0 : Int32)) C dL_refuses_583 (by decide) ?_
  refine z_lS C 4 [.ref (ad 0), .int (10 : Int32), .int (-1 : Int32), .int (0 : Int32)] [] (zBud_r hB) (cL_act_carriedAt_x1 (zC_I C) (zC_st C) (n := 130) (R_carriedAt1 (by decide))) gL_refuses_L_act (by decide +kernel) rfl dL_refuses_584 rfl ⟨Nat.le_of_ble_eq_true rfl, Nat.le_of_ble_eq_true rfl⟩ rfl (Nat.le_of_ble_eq_true rfl) ?_
  have C := zCT_p C (zBud_r hB); have hQ := hp _ hQ; have hB := zBud_p hB
  refine z_bipush (v := (-71 : Int32)) C dL_refuses_587 (by decide) ?_
  refine z_icmp_ne (tgt := 699) C dL_refuses_589 (by decide) (fun c => absurd (by decide) c) (fun _ => ?_)
  refine z_aload_n C dL_refuses_592 rfl 11 rfl ?_
  refine z_bipush (v := (11 : Int32)) C dL_refuses_593 (by decide) ?_
  refine z_iload C dL_refuses_595 6 rfl ?_
  refine z_if_ne (tgt := 604) C dL_refuses_597 (by decide) (fun c => absurd (by decide) c) (fun _ => ?_)
  refine z_iconst (v := (0 : Int32)) C dL_refuses_600 (by decide) ?_
  refine z_goto (tgt := 606) C dL_refuses_601 (by decide) ?_
  refine z_iconst (v := (5 : Int32)) C dL_refuses_606 (by decide) ?_
  refine z_lS C 4 [.ref (ad 0), .int (11 : Int32), .int (0 : Int32), .int (5 : Int32)] [] (zBud_r hB) (cL_act_addCredit_x2 (zC_I C) (zC_st C) (n := 130) (R_addCredit1 (by decide))) gL_refuses_L_act (by decide +kernel) rfl dL_refuses_607 rfl ⟨Nat.le_of_ble_eq_true rfl, Nat.le_of_ble_eq_true rfl⟩ rfl (Nat.le_of_ble_eq_true rfl) ?_
  have C := zCT_p C (zBud_r hB); have hQ := hp _ hQ; have hB := zBud_p hB
  refine z_bipush (v := (-72 : Int32)) C dL_refuses_610 (by decide) ?_
  refine z_icmp_ne (tgt := 699) C dL_refuses_612 (by decide) (fun c => absurd (by decide) c) (fun _ => ?_)
  exact kk _ C hQ hB
set_option maxRecDepth 100000 in
set_option maxHeartbeats 4000000 in
theorem wL_refuses_4 {h : zH} {ad : Nat → Nat} {G : zG} (C : zCT [] h ad zLX 12 G cL_refuses RL wsL_refuses 10 210) {QQ : zG → Prop} (hp : ∀ G, QQ G → QQ (zGp G)) (hQ : QQ G) {f : Nat} (hB : zBud G (f + 7)) {s1 : zS} {y c v : Int32} (hRI : zRI s1 y) (hc : ¬ (y ≤ y - 1 ∧ y - 1 ≤ y + 20) ∧ ¬ (y ≤ y + 21 ∧ y + 21 ≤ y + 20) ∧ ¬ (y ≤ 2147483647 ∧ (2147483647 : Int32) ≤ y + 20) ∧ ¬ (y ≤ -2147483648 ∧ (-2147483648 : Int32) ≤ y + 20)) (kk : ∀ G, zCT [] h ad zLX 12 G cL_refuses RL wsL_refuses 10 210 → QQ G → zBud G f → zV h ad zLX 12 G s1 161 [(10, .int (1001 : Int32)), (9, .int (1000001 : Int32)), (8, .int (1000000001 : Int32)), (7, .int (16 : Int32)), (6, .int (-2147483648 : Int32)), (5, .int (1 : Int32)), (11, .int (1 : Int32)), (4, .int (2147483647 : Int32)), (3, .int v), (2, .int c), (1, .int y), (0, .ref (ad 0))] []) : zV h ad zLX 12 G s1 615 [(11, .int (1 : Int32)), (10, .int (-1 : Int32)), (9, .int (-1 : Int32)), (8, .int (-1 : Int32)), (7, .int (-1 : Int32)), (6, .int (-1 : Int32)), (5, .int (0 : Int32)), (4, .int (2147483647 : Int32)), (3, .int v), (2, .int c), (1, .int y), (0, .ref (ad 0))] [] := by
  refine z_aload_n C dL_refuses_615 rfl 11 rfl ?_
  refine z_bipush (v := (11 : Int32)) C dL_refuses_616 (by decide) ?_
  refine z_iconst (v := (5 : Int32)) C dL_refuses_618 (by decide) ?_
  refine z_iload C dL_refuses_619 1 rfl ?_
  refine z_lS C 4 [.ref (ad 0), .int (11 : Int32), .int (5 : Int32), .int (-1 : Int32)] [] (zBud_r hB) (cL_act_addCredit_x2 (zC_I C) (zC_st C) (n := 130) (R_addCredit2 (by decide) (by decide))) gL_refuses_L_act (by decide +kernel) rfl dL_refuses_621 rfl ⟨Nat.le_of_ble_eq_true rfl, Nat.le_of_ble_eq_true rfl⟩ rfl (Nat.le_of_ble_eq_true rfl) ?_
  have C := zCT_p C (zBud_r hB); have hQ := hp _ hQ; have hB := zBud_p hB
  refine z_bipush (v := (-72 : Int32)) C dL_refuses_624 (by decide) ?_
  refine z_icmp_ne (tgt := 699) C dL_refuses_626 (by decide) (fun c => absurd (by decide) c) (fun _ => ?_)
  refine z_aload_n C dL_refuses_629 rfl 11 rfl ?_
  refine z_bipush (v := (13 : Int32)) C dL_refuses_630 (by decide) ?_
  refine z_iload C dL_refuses_632 4 rfl ?_
  refine z_iconst (v := (0 : Int32)) C dL_refuses_634 (by decide) ?_
  refine z_lS C 4 [.ref (ad 0), .int (13 : Int32), .int (-1 : Int32), .int (0 : Int32)] [] (zBud_r hB) (cL_act_creditAt_x1 (zC_I C) (zC_st C) (n := 130) (R_creditAt1 (by decide))) gL_refuses_L_act (by decide +kernel) rfl dL_refuses_635 rfl ⟨Nat.le_of_ble_eq_true rfl, Nat.le_of_ble_eq_true rfl⟩ rfl (Nat.le_of_ble_eq_true rfl) ?_
  have C := zCT_p C (zBud_r hB); have hQ := hp _ hQ; have hB := zBud_p hB
  refine z_bipush (v := (-71 : Int32)) C dL_refuses_638 (by decide) ?_
  refine z_icmp_ne (tgt := 699) C dL_refuses_640 (by decide) (fun c => absurd (by decide) c) (fun _ => ?_)
  refine z_aload_n C dL_refuses_643 rfl 11 rfl ?_
  refine z_bipush (v := (13 : Int32)) C dL_refuses_644 (by decide) ?_
  refine z_iconst (v := (0 : Int32)) C dL_refuses_646 (by decide) ?_
  refine z_iload C dL_refuses_647 6 rfl ?_
  refine z_iconst (v := (1 : Int32)) C dL_refuses_649 (by decide) ?_
  refine z_icmp_ne (tgt := 657) C dL_refuses_650 (by decide) (fun _ => ?_) (fun c => absurd c (by decide))
  refine z_iload C dL_refuses_657 5 rfl ?_
  refine z_lS C 4 [.ref (ad 0), .int (13 : Int32), .int (0 : Int32), .int (-1 : Int32)] [] (zBud_r hB) (cL_act_creditAt_x1 (zC_I C) (zC_st C) (n := 130) (R_creditAt2 (by decide) (by decide))) gL_refuses_L_act (by decide +kernel) rfl dL_refuses_659 rfl ⟨Nat.le_of_ble_eq_true rfl, Nat.le_of_ble_eq_true rfl⟩ rfl (Nat.le_of_ble_eq_true rfl) ?_
  have C := zCT_p C (zBud_r hB); have hQ := hp _ hQ; have hB := zBud_p hB
  refine z_bipush (v := (-71 : Int32)) C dL_refuses_662 (by decide) ?_
  refine z_icmp_ne (tgt := 699) C dL_refuses_664 (by decide) (fun c => absurd (by decide) c) (fun _ => ?_)
  refine z_aload_n C dL_refuses_667 rfl 11 rfl ?_
  refine z_bipush (v := (14 : Int32)) C dL_refuses_668 (by decide) ?_
  refine z_iload C dL_refuses_670 4 rfl ?_
  refine z_iconst (v := (0 : Int32)) C dL_refuses_672 (by decide) ?_
  refine z_lS C 4 [.ref (ad 0), .int (14 : Int32), .int (-1 : Int32), .int (0 : Int32)] [] (zBud_r hB) (cL_act_afterCredits_x1 (zC_I C) (zC_st C) (n := 130) (R_afterCredits (by decide))) gL_refuses_L_act (by decide +kernel) rfl dL_refuses_673 rfl ⟨Nat.le_of_ble_eq_true rfl, Nat.le_of_ble_eq_true rfl⟩ rfl (Nat.le_of_ble_eq_true rfl) ?_
  have C := zCT_p C (zBud_r hB); have hQ := hp _ hQ; have hB := zBud_p hB
  refine z_bipush (v := (-71 : Int32)) C dL_refuses_676 (by decide) ?_
  refine z_icmp_ne (tgt := 699) C dL_refuses_678 (by decide) (fun c => absurd (by decide) c) (fun _ => ?_)
  refine z_aload_n C dL_refuses_681 rfl 11 rfl ?_
  refine z_bipush (v := (15 : Int32)) C dL_refuses_682 (by decide) ?_
  refine z_iload C dL_refuses_684 4 rfl ?_
  refine z_iconst (v := (0 : Int32)) C dL_refuses_686 (by decide) ?_
  refine z_lS C 4 [.ref (ad 0), .int (15 : Int32), .int (-1 : Int32), .int (0 : Int32)] [] (zBud_r hB) (cL_act_bestSum_x1 (zC_I C) (zC_st C) (n := 130) (R_bestSum (by decide))) gL_refuses_L_act (by decide +kernel) rfl dL_refuses_687 rfl ⟨Nat.le_of_ble_eq_true rfl, Nat.le_of_ble_eq_true rfl⟩ rfl (Nat.le_of_ble_eq_true rfl) ?_
  have C := zCT_p C (zBud_r hB); have hQ := hp _ hQ; have hB := zBud_p hB
  refine z_bipush (v := (-71 : Int32)) C dL_refuses_690 (by decide) ?_
  refine z_icmp_ne (tgt := 699) C dL_refuses_692 (by decide) (fun c => absurd (by decide) c) (fun _ => ?_)
  refine z_iconst (v := (1 : Int32)) C dL_refuses_695 (by decide) ?_
  refine z_goto (tgt := 700) C dL_refuses_696 (by decide) ?_
  refine z_istore (y := (1 : Int32)) (lv' := [(11, .int (1 : Int32)), (10, .int (-1 : Int32)), (9, .int (-1 : Int32)), (8, .int (-1 : Int32)), (7, .int (-1 : Int32)), (6, .int (-1 : Int32)), (5, .int (0 : Int32)), (4, .int (2147483647 : Int32)), (3, .int v), (2, .int c), (1, .int y), (0, .ref (ad 0))]) C dL_refuses_700 (by decide) rfl rfl ?_
  refine z_iload C dL_refuses_702 0 rfl ?_
  refine z_if_ne (tgt := 709) C dL_refuses_704 (by decide) (fun _ => ?_) (fun c => absurd c (by decide))
  refine z_iinc (j := 6) (v := (1 : Int32)) (d := (1 : Int32)) (lv' := [(5, .int (1 : Int32)), (11, .int (1 : Int32)), (10, .int (-1 : Int32)), (9, .int (-1 : Int32)), (8, .int (-1 : Int32)), (7, .int (-1 : Int32)), (6, .int (-1 : Int32)), (4, .int (2147483647 : Int32)), (3, .int v), (2, .int c), (1, .int y), (0, .ref (ad 0))]) C dL_refuses_709 rfl (by decide) (by decide) (by decide) rfl ?_
  refine z_goto (tgt := 24) C dL_refuses_712 (by decide) ?_
  refine z_iload C dL_refuses_24 0 rfl ?_
  refine z_iconst (v := (4 : Int32)) C dL_refuses_26 (by decide) ?_
  refine z_icmp_ge (tgt := 715) C dL_refuses_27 (by decide) (fun c => absurd c (by decide)) (fun _ => ?_)
  refine z_iload C dL_refuses_30 0 rfl ?_
  refine z_if_ne (tgt := 39) C dL_refuses_32 (by decide) (fun _ => ?_) (fun c => absurd c (by decide))
  refine z_iload C dL_refuses_39 0 rfl ?_
  refine z_iconst (v := (2 : Int32)) C dL_refuses_41 (by decide) ?_
  refine z_icmp_ne (tgt := 50) C dL_refuses_42 (by decide) (fun _ => ?_) (fun c => absurd c (by decide))
  refine z_iload C dL_refuses_50 7 rfl ?_
  refine z_ineg C dL_refuses_52 ?_
  refine z_top (y := (-2147483647 : Int32)) (by decide) ?_
  refine z_iconst (v := (1 : Int32)) C dL_refuses_53 (by decide) ?_
  refine z_isub C dL_refuses_54 ?_
  refine z_top (y := (-2147483648 : Int32)) (by decide) ?_
  refine z_istore (y := (-2147483648 : Int32)) (lv' := [(6, .int (-2147483648 : Int32)), (5, .int (1 : Int32)), (11, .int (1 : Int32)), (10, .int (-1 : Int32)), (9, .int (-1 : Int32)), (8, .int (-1 : Int32)), (7, .int (-1 : Int32)), (4, .int (2147483647 : Int32)), (3, .int v), (2, .int c), (1, .int y), (0, .ref (ad 0))]) C dL_refuses_55 (by decide) rfl rfl ?_
  refine z_iload C dL_refuses_57 1 rfl ?_
  refine z_iconst (v := (1 : Int32)) C dL_refuses_59 (by decide) ?_
  refine z_icmp_ne (tgt := 68) C dL_refuses_60 (by decide) (fun c => absurd (by decide) c) (fun _ => ?_)
  refine z_bipush (v := (16 : Int32)) C dL_refuses_63 (by decide) ?_
  refine z_goto (tgt := 70) C dL_refuses_65 (by decide) ?_
  refine z_istore (y := (16 : Int32)) (lv' := [(7, .int (16 : Int32)), (6, .int (-2147483648 : Int32)), (5, .int (1 : Int32)), (11, .int (1 : Int32)), (10, .int (-1 : Int32)), (9, .int (-1 : Int32)), (8, .int (-1 : Int32)), (4, .int (2147483647 : Int32)), (3, .int v), (2, .int c), (1, .int y), (0, .ref (ad 0))]) C dL_refuses_70 (by decide) rfl rfl ?_
  refine z_iload C dL_refuses_72 2 rfl ?_
  refine z_iconst (v := (1 : Int32)) C dL_refuses_74 (by decide) ?_
  refine z_icmp_ne (tgt := 83) C dL_refuses_75 (by decide) (fun c => absurd (by decide) c) (fun _ => ?_)
  refine z_ldc (v := (1000000001 : Int32)) C eL_refuses_c78 dL_refuses_78 ?_
  refine z_goto (tgt := 85) C dL_refuses_80 (by decide) ?_
  refine z_istore (y := (1000000001 : Int32)) (lv' := [(8, .int (1000000001 : Int32)), (7, .int (16 : Int32)), (6, .int (-2147483648 : Int32)), (5, .int (1 : Int32)), (11, .int (1 : Int32)), (10, .int (-1 : Int32)), (9, .int (-1 : Int32)), (4, .int (2147483647 : Int32)), (3, .int v), (2, .int c), (1, .int y), (0, .ref (ad 0))]) C dL_refuses_85 (by decide) rfl rfl ?_
  refine z_iload C dL_refuses_87 3 rfl ?_
  refine z_iconst (v := (1 : Int32)) C dL_refuses_89 (by decide) ?_
  refine z_icmp_ne (tgt := 98) C dL_refuses_90 (by decide) (fun c => absurd (by decide) c) (fun _ => ?_)
  refine z_ldc (v := (1000001 : Int32)) C eL_refuses_c79 dL_refuses_93 ?_
  refine z_goto (tgt := 100) C dL_refuses_95 (by decide) ?_
  refine z_istore (y := (1000001 : Int32)) (lv' := [(9, .int (1000001 : Int32)), (8, .int (1000000001 : Int32)), (7, .int (16 : Int32)), (6, .int (-2147483648 : Int32)), (5, .int (1 : Int32)), (11, .int (1 : Int32)), (10, .int (-1 : Int32)), (4, .int (2147483647 : Int32)), (3, .int v), (2, .int c), (1, .int y), (0, .ref (ad 0))]) C dL_refuses_100 (by decide) rfl rfl ?_
  refine z_iload C dL_refuses_102 4 rfl ?_
  refine z_iconst (v := (1 : Int32)) C dL_refuses_104 (by decide) ?_
  refine z_icmp_ne (tgt := 114) C dL_refuses_105 (by decide) (fun c => absurd (by decide) c) (fun _ => ?_)
  refine z_sipush (v := (1001 : Int32)) C dL_refuses_108 (by decide) ?_
  refine z_goto (tgt := 116) C dL_refuses_111 (by decide) ?_
  refine z_istore (y := (1001 : Int32)) (lv' := [(10, .int (1001 : Int32)), (9, .int (1000001 : Int32)), (8, .int (1000000001 : Int32)), (7, .int (16 : Int32)), (6, .int (-2147483648 : Int32)), (5, .int (1 : Int32)), (11, .int (1 : Int32)), (4, .int (2147483647 : Int32)), (3, .int v), (2, .int c), (1, .int y), (0, .ref (ad 0))]) C dL_refuses_116 (by decide) rfl rfl ?_
  refine z_aload_n C dL_refuses_118 rfl 11 rfl ?_
  refine z_iload C dL_refuses_119 3 rfl ?_
  refine z_bipush (v := (99 : Int32)) C dL_refuses_121 (by decide) ?_
  refine z_iconst (v := (0 : Int32)) C dL_refuses_123 (by decide) ?_
  refine z_iconst (v := (0 : Int32)) C dL_refuses_124 (by decide) ?_
  refine z_lS C 5 [.ref (ad 0), .int (16 : Int32), .int (99 : Int32), .int (0 : Int32), .int (0 : Int32)] [] (zBud_r hB) (cL_define_x1 (zC_I C) (zC_st C) (n := 130) (R_def1 (by decide))) gL_refuses_L_define (by decide +kernel) rfl dL_refuses_125 rfl ⟨Nat.le_of_ble_eq_true rfl, Nat.le_of_ble_eq_true rfl⟩ rfl (Nat.le_of_ble_eq_true rfl) ?_
  have C := zCT_p C (zBud_r hB); have hQ := hp _ hQ; have hB := zBud_p hB
  refine z_bipush (v := (-71 : Int32)) C dL_refuses_128 (by decide) ?_
  refine z_icmp_ne (tgt := 273) C dL_refuses_130 (by decide) (fun c => absurd (by decide) c) (fun _ => ?_)
  refine z_aload_n C dL_refuses_133 rfl 11 rfl ?_
  refine z_bipush (v := (15 : Int32)) C dL_refuses_134 (by decide) ?_
  refine z_iload C dL_refuses_136 5 rfl ?_
  refine z_iconst (v := (1 : Int32)) C dL_refuses_138 (by decide) ?_
  refine z_icmp_ne (tgt := 147) C dL_refuses_139 (by decide) (fun c => absurd (by decide) c) (fun _ => ?_)
  refine z_bipush (v := (9 : Int32)) C dL_refuses_142 (by decide) ?_
  refine z_goto (tgt := 149) C dL_refuses_144 (by decide) ?_
  refine z_iload C dL_refuses_149 3 rfl ?_
  refine z_iload C dL_refuses_151 3 rfl ?_
  refine z_lS C 5 [.ref (ad 0), .int (15 : Int32), .int (9 : Int32), .int (16 : Int32), .int (16 : Int32)] [] (zBud_r hB) (cL_define_x2 (zC_I C) (zC_st C) (n := 130) (R_def2 (by decide) (by decide))) gL_refuses_L_define (by decide +kernel) rfl dL_refuses_153 rfl ⟨Nat.le_of_ble_eq_true rfl, Nat.le_of_ble_eq_true rfl⟩ rfl (Nat.le_of_ble_eq_true rfl) ?_
  have C := zCT_p C (zBud_r hB); have hQ := hp _ hQ; have hB := zBud_p hB
  refine z_bipush (v := (-72 : Int32)) C dL_refuses_156 (by decide) ?_
  refine z_icmp_ne (tgt := 273) C dL_refuses_158 (by decide) (fun c => absurd (by decide) c) (fun _ => ?_)
  exact kk _ C hQ hB
set_option maxRecDepth 100000 in
set_option maxHeartbeats 4000000 in
theorem wL_refuses_5 {h : zH} {ad : Nat → Nat} {G : zG} (C : zCT [] h ad zLX 12 G cL_refuses RL wsL_refuses 10 210) {QQ : zG → Prop} (hp : ∀ G, QQ G → QQ (zGp G)) (hQ : QQ G) {f : Nat} (hB : zBud G (f + 7)) {s1 : zS} {y c v : Int32} (hRI : zRI s1 y) (hc : ¬ (y ≤ y - 1 ∧ y - 1 ≤ y + 20) ∧ ¬ (y ≤ y + 21 ∧ y + 21 ≤ y + 20) ∧ ¬ (y ≤ 2147483647 ∧ (2147483647 : Int32) ≤ y + 20) ∧ ¬ (y ≤ -2147483648 ∧ (-2147483648 : Int32) ≤ y + 20)) (kk : ∀ G, zCT [] h ad zLX 12 G cL_refuses RL wsL_refuses 10 210 → QQ G → zBud G f → zV h ad zLX 12 G s1 269 [(10, .int (1001 : Int32)), (9, .int (1000001 : Int32)), (8, .int (1000000001 : Int32)), (7, .int (16 : Int32)), (6, .int (-2147483648 : Int32)), (5, .int (1 : Int32)), (11, .int (1 : Int32)), (4, .int (2147483647 : Int32)), (3, .int v), (2, .int c), (1, .int y), (0, .ref (ad 0))] []) : zV h ad zLX 12 G s1 161 [(10, .int (1001 : Int32)), (9, .int (1000001 : Int32)), (8, .int (1000000001 : Int32)), (7, .int (16 : Int32)), (6, .int (-2147483648 : Int32)), (5, .int (1 : Int32)), (11, .int (1 : Int32)), (4, .int (2147483647 : Int32)), (3, .int v), (2, .int c), (1, .int y), (0, .ref (ad 0))] [] := by
  refine z_aload_n C dL_refuses_161 rfl 11 rfl ?_
  refine z_bipush (v := (15 : Int32)) C dL_refuses_162 (by decide) ?_
  refine z_iconst (v := (1 : Int32)) C dL_refuses_164 (by decide) ?_
  refine z_iload C dL_refuses_165 3 rfl ?_
  refine z_iconst (v := (0 : Int32)) C dL_refuses_167 (by decide) ?_
  refine z_lS C 5 [.ref (ad 0), .int (15 : Int32), .int (1 : Int32), .int (16 : Int32), .int (0 : Int32)] [] (zBud_r hB) (cL_define_x1 (zC_I C) (zC_st C) (n := 130) (R_def3 (by decide) (by decide) (by decide) (by decide))) gL_refuses_L_define (by decide +kernel) rfl dL_refuses_168 rfl ⟨Nat.le_of_ble_eq_true rfl, Nat.le_of_ble_eq_true rfl⟩ rfl (Nat.le_of_ble_eq_true rfl) ?_
  have C := zCT_p C (zBud_r hB); have hQ := hp _ hQ; have hB := zBud_p hB
  refine z_bipush (v := (-71 : Int32)) C dL_refuses_171 (by decide) ?_
  refine z_icmp_ne (tgt := 273) C dL_refuses_173 (by decide) (fun c => absurd (by decide) c) (fun _ => ?_)
  refine z_aload_n C dL_refuses_176 rfl 11 rfl ?_
  refine z_bipush (v := (15 : Int32)) C dL_refuses_177 (by decide) ?_
  refine z_iconst (v := (1 : Int32)) C dL_refuses_179 (by decide) ?_
  refine z_iconst (v := (0 : Int32)) C dL_refuses_180 (by decide) ?_
  refine z_iload C dL_refuses_181 3 rfl ?_
  refine z_lS C 5 [.ref (ad 0), .int (15 : Int32), .int (1 : Int32), .int (0 : Int32), .int (16 : Int32)] [] (zBud_r hB) (cL_define_x1 (zC_I C) (zC_st C) (n := 130) (R_def4 (by decide) (by decide) (by decide) (by decide) rfl (by decide))) gL_refuses_L_define (by decide +kernel) rfl dL_refuses_183 rfl ⟨Nat.le_of_ble_eq_true rfl, Nat.le_of_ble_eq_true rfl⟩ rfl (Nat.le_of_ble_eq_true rfl) ?_
  have C := zCT_p C (zBud_r hB); have hQ := hp _ hQ; have hB := zBud_p hB
  refine z_bipush (v := (-71 : Int32)) C dL_refuses_186 (by decide) ?_
  refine z_icmp_ne (tgt := 273) C dL_refuses_188 (by decide) (fun c => absurd (by decide) c) (fun _ => ?_)
  refine z_aload_n C dL_refuses_191 rfl 11 rfl ?_
  refine z_bipush (v := (15 : Int32)) C dL_refuses_192 (by decide) ?_
  refine z_iconst (v := (3 : Int32)) C dL_refuses_194 (by decide) ?_
  refine z_iload C dL_refuses_195 3 rfl ?_
  refine z_iconst (v := (-1 : Int32)) C dL_refuses_197 (by decide) ?_
  refine z_lS C 5 [.ref (ad 0), .int (15 : Int32), .int (3 : Int32), .int (16 : Int32), .int (-1 : Int32)] [] (zBud_r hB) (cL_define_x1 (zC_I C) (zC_st C) (n := 130) (R_def3 (by decide) (by decide) (by decide) (by decide))) gL_refuses_L_define (by decide +kernel) rfl dL_refuses_198 rfl ⟨Nat.le_of_ble_eq_true rfl, Nat.le_of_ble_eq_true rfl⟩ rfl (Nat.le_of_ble_eq_true rfl) ?_
  have C := zCT_p C (zBud_r hB); have hQ := hp _ hQ; have hB := zBud_p hB
  refine z_bipush (v := (-71 : Int32)) C dL_refuses_201 (by decide) ?_
  refine z_icmp_ne (tgt := 273) C dL_refuses_203 (by decide) (fun c => absurd (by decide) c) (fun _ => ?_)
  refine z_aload_n C dL_refuses_206 rfl 11 rfl ?_
  refine z_bipush (v := (15 : Int32)) C dL_refuses_207 (by decide) ?_
  refine z_iconst (v := (3 : Int32)) C dL_refuses_209 (by decide) ?_
  refine z_iconst (v := (0 : Int32)) C dL_refuses_210 (by decide) ?_
  refine z_iload C dL_refuses_211 0 rfl ?_
  refine z_lS C 5 [.ref (ad 0), .int (15 : Int32), .int (3 : Int32), .int (0 : Int32), .int (1001 : Int32)] [] (zBud_r hB) (cL_define_x2 (zC_I C) (zC_st C) (n := 130) (R_def5 (by decide) (by decide) (by decide))) gL_refuses_L_define (by decide +kernel) rfl dL_refuses_213 rfl ⟨Nat.le_of_ble_eq_true rfl, Nat.le_of_ble_eq_true rfl⟩ rfl (Nat.le_of_ble_eq_true rfl) ?_
  have C := zCT_p C (zBud_r hB); have hQ := hp _ hQ; have hB := zBud_p hB
  refine z_bipush (v := (-72 : Int32)) C dL_refuses_216 (by decide) ?_
  refine z_icmp_ne (tgt := 273) C dL_refuses_218 (by decide) (fun c => absurd (by decide) c) (fun _ => ?_)
  refine z_aload_n C dL_refuses_221 rfl 11 rfl ?_
  refine z_bipush (v := (15 : Int32)) C dL_refuses_222 (by decide) ?_
  refine z_bipush (v := (6 : Int32)) C dL_refuses_224 (by decide) ?_
  refine z_iload C dL_refuses_226 3 rfl ?_
  refine z_iconst (v := (0 : Int32)) C dL_refuses_228 (by decide) ?_
  refine z_lS C 5 [.ref (ad 0), .int (15 : Int32), .int (6 : Int32), .int (16 : Int32), .int (0 : Int32)] [] (zBud_r hB) (cL_define_x1 (zC_I C) (zC_st C) (n := 130) (R_def3 (by decide) (by decide) (by decide) (by decide))) gL_refuses_L_define (by decide +kernel) rfl dL_refuses_229 rfl ⟨Nat.le_of_ble_eq_true rfl, Nat.le_of_ble_eq_true rfl⟩ rfl (Nat.le_of_ble_eq_true rfl) ?_
  have C := zCT_p C (zBud_r hB); have hQ := hp _ hQ; have hB := zBud_p hB
  refine z_bipush (v := (-71 : Int32)) C dL_refuses_232 (by decide) ?_
  refine z_icmp_ne (tgt := 273) C dL_refuses_234 (by decide) (fun c => absurd (by decide) c) (fun _ => ?_)
  refine z_aload_n C dL_refuses_237 rfl 11 rfl ?_
  refine z_bipush (v := (15 : Int32)) C dL_refuses_238 (by decide) ?_
  refine z_bipush (v := (8 : Int32)) C dL_refuses_240 (by decide) ?_
  refine z_iconst (v := (0 : Int32)) C dL_refuses_242 (by decide) ?_
  refine z_iload C dL_refuses_243 3 rfl ?_
  refine z_lS C 5 [.ref (ad 0), .int (15 : Int32), .int (8 : Int32), .int (0 : Int32), .int (16 : Int32)] [] (zBud_r hB) (cL_define_x1 (zC_I C) (zC_st C) (n := 130) (R_def4 (by decide) (by decide) (by decide) (by decide) rfl (by decide))) gL_refuses_L_define (by decide +kernel) rfl dL_refuses_245 rfl ⟨Nat.le_of_ble_eq_true rfl, Nat.le_of_ble_eq_true rfl⟩ rfl (Nat.le_of_ble_eq_true rfl) ?_
  have C := zCT_p C (zBud_r hB); have hQ := hp _ hQ; have hB := zBud_p hB
  refine z_bipush (v := (-71 : Int32)) C dL_refuses_248 (by decide) ?_
  refine z_icmp_ne (tgt := 273) C dL_refuses_250 (by decide) (fun c => absurd (by decide) c) (fun _ => ?_)
  refine z_aload_n C dL_refuses_253 rfl 11 rfl ?_
  refine z_bipush (v := (15 : Int32)) C dL_refuses_254 (by decide) ?_
  refine z_bipush (v := (7 : Int32)) C dL_refuses_256 (by decide) ?_
  refine z_iload C dL_refuses_258 3 rfl ?_
  refine z_iconst (v := (0 : Int32)) C dL_refuses_260 (by decide) ?_
  refine z_lS C 5 [.ref (ad 0), .int (15 : Int32), .int (7 : Int32), .int (16 : Int32), .int (0 : Int32)] [] (zBud_r hB) (cL_define_x1 (zC_I C) (zC_st C) (n := 130) (R_def3 (by decide) (by decide) (by decide) (by decide))) gL_refuses_L_define (by decide +kernel) rfl dL_refuses_261 rfl ⟨Nat.le_of_ble_eq_true rfl, Nat.le_of_ble_eq_true rfl⟩ rfl (Nat.le_of_ble_eq_true rfl) ?_
  have C := zCT_p C (zBud_r hB); have hQ := hp _ hQ; have hB := zBud_p hB
  refine z_bipush (v := (-71 : Int32)) C dL_refuses_264 (by decide) ?_
  refine z_icmp_ne (tgt := 273) C dL_refuses_266 (by decide) (fun c => absurd (by decide) c) (fun _ => ?_)
  exact kk _ C hQ hB
set_option maxRecDepth 100000 in
set_option maxHeartbeats 4000000 in
theorem wL_refuses_6 {h : zH} {ad : Nat → Nat} {G : zG} (C : zCT [] h ad zLX 12 G cL_refuses RL wsL_refuses 10 210) {QQ : zG → Prop} (hp : ∀ G, QQ G → QQ (zGp G)) (hQ : QQ G) {f : Nat} (hB : zBud G (f + 7)) {s1 : zS} {y c v : Int32} (hRI : zRI s1 y) (hc : ¬ (y ≤ y - 1 ∧ y - 1 ≤ y + 20) ∧ ¬ (y ≤ y + 21 ∧ y + 21 ≤ y + 20) ∧ ¬ (y ≤ 2147483647 ∧ (2147483647 : Int32) ≤ y + 20) ∧ ¬ (y ≤ -2147483648 ∧ (-2147483648 : Int32) ≤ y + 20)) (kk : ∀ G, zCT [] h ad zLX 12 G cL_refuses RL wsL_refuses 10 210 → QQ G → zBud G f → zV h ad zLX 12 G s1 374 [(11, .int (1 : Int32)), (10, .int (1001 : Int32)), (9, .int (1000001 : Int32)), (8, .int (1000000001 : Int32)), (7, .int (16 : Int32)), (6, .int (-2147483648 : Int32)), (5, .int (1 : Int32)), (4, .int (2147483647 : Int32)), (3, .int v), (2, .int c), (1, .int y), (0, .ref (ad 0))] []) : zV h ad zLX 12 G s1 269 [(10, .int (1001 : Int32)), (9, .int (1000001 : Int32)), (8, .int (1000000001 : Int32)), (7, .int (16 : Int32)), (6, .int (-2147483648 : Int32)), (5, .int (1 : Int32)), (11, .int (1 : Int32)), (4, .int (2147483647 : Int32)), (3, .int v), (2, .int c), (1, .int y), (0, .ref (ad 0))] [] := by
  refine z_iconst (v := (1 : Int32)) C dL_refuses_269 (by decide) ?_
  refine z_goto (tgt := 274) C dL_refuses_270 (by decide) ?_
  refine z_istore (y := (1 : Int32)) (lv' := [(11, .int (1 : Int32)), (10, .int (1001 : Int32)), (9, .int (1000001 : Int32)), (8, .int (1000000001 : Int32)), (7, .int (16 : Int32)), (6, .int (-2147483648 : Int32)), (5, .int (1 : Int32)), (4, .int (2147483647 : Int32)), (3, .int v), (2, .int c), (1, .int y), (0, .ref (ad 0))]) C dL_refuses_274 (by decide) rfl rfl ?_
  refine z_iload C dL_refuses_276 0 rfl ?_
  refine z_if_eq (tgt := 498) C dL_refuses_278 (by decide) (fun c => absurd c (by decide)) (fun _ => ?_)
  refine z_aload_n C dL_refuses_281 rfl 11 rfl ?_
  refine z_iconst (v := (0 : Int32)) C dL_refuses_282 (by decide) ?_
  refine z_iload C dL_refuses_283 4 rfl ?_
  refine z_iconst (v := (-1 : Int32)) C dL_refuses_285 (by decide) ?_
  refine z_lS C 4 [.ref (ad 0), .int (0 : Int32), .int (16 : Int32), .int (-1 : Int32)] [] (zBud_r hB) (cL_act_answer_x1 (zC_I C) (zC_st C) (n := 130) (R_answer1 (by decide))) gL_refuses_L_act (by decide +kernel) rfl dL_refuses_286 rfl ⟨Nat.le_of_ble_eq_true rfl, Nat.le_of_ble_eq_true rfl⟩ rfl (Nat.le_of_ble_eq_true rfl) ?_
  have C := zCT_p C (zBud_r hB); have hQ := hp _ hQ; have hB := zBud_p hB
  refine z_bipush (v := (-71 : Int32)) C dL_refuses_289 (by decide) ?_
  refine z_icmp_ne (tgt := 498) C dL_refuses_291 (by decide) (fun c => absurd (by decide) c) (fun _ => ?_)
  refine z_aload_n C dL_refuses_294 rfl 11 rfl ?_
  refine z_iconst (v := (0 : Int32)) C dL_refuses_295 (by decide) ?_
  refine z_bipush (v := (15 : Int32)) C dL_refuses_296 (by decide) ?_
  refine z_iload C dL_refuses_298 2 rfl ?_
  refine z_lS C 4 [.ref (ad 0), .int (0 : Int32), .int (15 : Int32), .int (1000001 : Int32)] [] (zBud_r hB) (cL_act_answer_x2 (zC_I C) (zC_st C) (n := 130) (R_answer2 (by decide) (by decide))) gL_refuses_L_act (by decide +kernel) rfl dL_refuses_300 rfl ⟨Nat.le_of_ble_eq_true rfl, Nat.le_of_ble_eq_true rfl⟩ rfl (Nat.le_of_ble_eq_true rfl) ?_
  have C := zCT_p C (zBud_r hB); have hQ := hp _ hQ; have hB := zBud_p hB
  refine z_bipush (v := (-72 : Int32)) C dL_refuses_303 (by decide) ?_
  refine z_icmp_ne (tgt := 498) C dL_refuses_305 (by decide) (fun c => absurd (by decide) c) (fun _ => ?_)
  refine z_aload_n C dL_refuses_308 rfl 11 rfl ?_
  refine z_iconst (v := (1 : Int32)) C dL_refuses_309 (by decide) ?_
  refine z_iload C dL_refuses_310 4 rfl ?_
  refine z_iconst (v := (0 : Int32)) C dL_refuses_312 (by decide) ?_
  refine z_lS C 4 [.ref (ad 0), .int (1 : Int32), .int (16 : Int32), .int (0 : Int32)] [] (zBud_r hB) (cL_act_kindOf_x1 (zC_I C) (zC_st C) (n := 130) (R_kindOf (by decide))) gL_refuses_L_act (by decide +kernel) rfl dL_refuses_313 rfl ⟨Nat.le_of_ble_eq_true rfl, Nat.le_of_ble_eq_true rfl⟩ rfl (Nat.le_of_ble_eq_true rfl) ?_
  have C := zCT_p C (zBud_r hB); have hQ := hp _ hQ; have hB := zBud_p hB
  refine z_bipush (v := (-71 : Int32)) C dL_refuses_316 (by decide) ?_
  refine z_icmp_ne (tgt := 498) C dL_refuses_318 (by decide) (fun c => absurd (by decide) c) (fun _ => ?_)
  refine z_aload_n C dL_refuses_321 rfl 11 rfl ?_
  refine z_iconst (v := (2 : Int32)) C dL_refuses_322 (by decide) ?_
  refine z_iload C dL_refuses_323 4 rfl ?_
  refine z_iconst (v := (0 : Int32)) C dL_refuses_325 (by decide) ?_
  refine z_lS C 4 [.ref (ad 0), .int (2 : Int32), .int (16 : Int32), .int (0 : Int32)] [] (zBud_r hB) (cL_act_value_x1 (zC_I C) (zC_st C) (n := 130) (R_value (by decide))) gL_refuses_L_act (by decide +kernel) rfl dL_refuses_326 rfl ⟨Nat.le_of_ble_eq_true rfl, Nat.le_of_ble_eq_true rfl⟩ rfl (Nat.le_of_ble_eq_true rfl) ?_
  have C := zCT_p C (zBud_r hB); have hQ := hp _ hQ; have hB := zBud_p hB
  refine z_bipush (v := (-71 : Int32)) C dL_refuses_329 (by decide) ?_
  refine z_icmp_ne (tgt := 498) C dL_refuses_331 (by decide) (fun c => absurd (by decide) c) (fun _ => ?_)
  refine z_aload_n C dL_refuses_334 rfl 11 rfl ?_
  refine z_iconst (v := (3 : Int32)) C dL_refuses_335 (by decide) ?_
  refine z_iload C dL_refuses_336 4 rfl ?_
  refine z_iconst (v := (-1 : Int32)) C dL_refuses_338 (by decide) ?_
  refine z_lS C 4 [.ref (ad 0), .int (3 : Int32), .int (16 : Int32), .int (-1 : Int32)] [] (zBud_r hB) (cL_act_boundFor_x1 (zC_I C) (zC_st C) (n := 130) (R_boundFor1 (by decide))) gL_refuses_L_act (by decide +kernel) rfl dL_refuses_339 rfl ⟨Nat.le_of_ble_eq_true rfl, Nat.le_of_ble_eq_true rfl⟩ rfl (Nat.le_of_ble_eq_true rfl) ?_
  have C := zCT_p C (zBud_r hB); have hQ := hp _ hQ; have hB := zBud_p hB
  refine z_bipush (v := (-71 : Int32)) C dL_refuses_342 (by decide) ?_
  refine z_icmp_ne (tgt := 498) C dL_refuses_344 (by decide) (fun c => absurd (by decide) c) (fun _ => ?_)
  refine z_aload_n C dL_refuses_347 rfl 11 rfl ?_
  refine z_iconst (v := (3 : Int32)) C dL_refuses_348 (by decide) ?_
  refine z_bipush (v := (15 : Int32)) C dL_refuses_349 (by decide) ?_
  refine z_iload C dL_refuses_351 3 rfl ?_
  refine z_lS C 4 [.ref (ad 0), .int (3 : Int32), .int (15 : Int32), .int (1000000001 : Int32)] [] (zBud_r hB) (cL_act_boundFor_x2 (zC_I C) (zC_st C) (n := 130) (R_boundFor2 (by decide) (by decide))) gL_refuses_L_act (by decide +kernel) rfl dL_refuses_353 rfl ⟨Nat.le_of_ble_eq_true rfl, Nat.le_of_ble_eq_true rfl⟩ rfl (Nat.le_of_ble_eq_true rfl) ?_
  have C := zCT_p C (zBud_r hB); have hQ := hp _ hQ; have hB := zBud_p hB
  refine z_bipush (v := (-72 : Int32)) C dL_refuses_356 (by decide) ?_
  refine z_icmp_ne (tgt := 498) C dL_refuses_358 (by decide) (fun c => absurd (by decide) c) (fun _ => ?_)
  refine z_aload_n C dL_refuses_361 rfl 11 rfl ?_
  refine z_iconst (v := (3 : Int32)) C dL_refuses_362 (by decide) ?_
  refine z_bipush (v := (15 : Int32)) C dL_refuses_363 (by decide) ?_
  refine z_iconst (v := (0 : Int32)) C dL_refuses_365 (by decide) ?_
  refine z_lS C 4 [.ref (ad 0), .int (3 : Int32), .int (15 : Int32), .int (0 : Int32)] [] (zBud_r hB) (cL_act_boundFor_x3 (zC_I C) (zC_st C) (n := 130) (R_boundFor3 hRI)) gL_refuses_L_act (by decide +kernel) rfl dL_refuses_366 rfl ⟨Nat.le_of_ble_eq_true rfl, Nat.le_of_ble_eq_true rfl⟩ rfl (Nat.le_of_ble_eq_true rfl) ?_
  have C := zCT_p C (zBud_r hB); have hQ := hp _ hQ; have hB := zBud_p hB
  refine z_bipush (v := (-73 : Int32)) C dL_refuses_369 (by decide) ?_
  refine z_icmp_ne (tgt := 498) C dL_refuses_371 (by decide) (fun c => absurd (by decide) c) (fun _ => ?_)
  exact kk _ C hQ hB
set_option maxRecDepth 100000 in
set_option maxHeartbeats 4000000 in
theorem wL_refuses_7 {h : zH} {ad : Nat → Nat} {G : zG} (C : zCT [] h ad zLX 12 G cL_refuses RL wsL_refuses 10 210) {QQ : zG → Prop} (hp : ∀ G, QQ G → QQ (zGp G)) (hQ : QQ G) {f : Nat} (hB : zBud G (f + 7)) {s1 : zS} {y c v : Int32} (hRI : zRI s1 y) (hc : ¬ (y ≤ y - 1 ∧ y - 1 ≤ y + 20) ∧ ¬ (y ≤ y + 21 ∧ y + 21 ≤ y + 20) ∧ ¬ (y ≤ 2147483647 ∧ (2147483647 : Int32) ≤ y + 20) ∧ ¬ (y ≤ -2147483648 ∧ (-2147483648 : Int32) ≤ y + 20)) (kk : ∀ G, zCT [] h ad zLX 12 G cL_refuses RL wsL_refuses 10 210 → QQ G → zBud G f → zV h ad zLX 12 G s1 480 [(11, .int (1 : Int32)), (10, .int (1001 : Int32)), (9, .int (1000001 : Int32)), (8, .int (1000000001 : Int32)), (7, .int (16 : Int32)), (6, .int (-2147483648 : Int32)), (5, .int (1 : Int32)), (4, .int (2147483647 : Int32)), (3, .int v), (2, .int c), (1, .int y), (0, .ref (ad 0))] []) : zV h ad zLX 12 G s1 374 [(11, .int (1 : Int32)), (10, .int (1001 : Int32)), (9, .int (1000001 : Int32)), (8, .int (1000000001 : Int32)), (7, .int (16 : Int32)), (6, .int (-2147483648 : Int32)), (5, .int (1 : Int32)), (4, .int (2147483647 : Int32)), (3, .int v), (2, .int c), (1, .int y), (0, .ref (ad 0))] [] := by
  refine z_aload_n C dL_refuses_374 rfl 11 rfl ?_
  refine z_iconst (v := (4 : Int32)) C dL_refuses_375 (by decide) ?_
  refine z_iload C dL_refuses_376 4 rfl ?_
  refine z_iconst (v := (0 : Int32)) C dL_refuses_378 (by decide) ?_
  refine z_lS C 4 [.ref (ad 0), .int (4 : Int32), .int (16 : Int32), .int (0 : Int32)] [] (zBud_r hB) (cL_act_dependsOn_x1 (zC_I C) (zC_st C) (n := 130) (R_dependsOn1 (by decide))) gL_refuses_L_act (by decide +kernel) rfl dL_refuses_379 rfl ⟨Nat.le_of_ble_eq_true rfl, Nat.le_of_ble_eq_true rfl⟩ rfl (Nat.le_of_ble_eq_true rfl) ?_
  have C := zCT_p C (zBud_r hB); have hQ := hp _ hQ; have hB := zBud_p hB
  refine z_bipush (v := (-71 : Int32)) C dL_refuses_382 (by decide) ?_
  refine z_icmp_ne (tgt := 498) C dL_refuses_384 (by decide) (fun c => absurd (by decide) c) (fun _ => ?_)
  refine z_aload_n C dL_refuses_387 rfl 11 rfl ?_
  refine z_iconst (v := (4 : Int32)) C dL_refuses_388 (by decide) ?_
  refine z_iconst (v := (0 : Int32)) C dL_refuses_389 (by decide) ?_
  refine z_iload C dL_refuses_390 4 rfl ?_
  refine z_lS C 4 [.ref (ad 0), .int (4 : Int32), .int (0 : Int32), .int (16 : Int32)] [] (zBud_r hB) (cL_act_dependsOn_x1 (zC_I C) (zC_st C) (n := 130) (R_dependsOn2 (by decide) (by decide))) gL_refuses_L_act (by decide +kernel) rfl dL_refuses_392 rfl ⟨Nat.le_of_ble_eq_true rfl, Nat.le_of_ble_eq_true rfl⟩ rfl (Nat.le_of_ble_eq_true rfl) ?_
  have C := zCT_p C (zBud_r hB); have hQ := hp _ hQ; have hB := zBud_p hB
  refine z_bipush (v := (-71 : Int32)) C dL_refuses_395 (by decide) ?_
  refine z_icmp_ne (tgt := 498) C dL_refuses_397 (by decide) (fun c => absurd (by decide) c) (fun _ => ?_)
  refine z_aload_n C dL_refuses_400 rfl 11 rfl ?_
  refine z_iconst (v := (5 : Int32)) C dL_refuses_401 (by decide) ?_
  refine z_iload C dL_refuses_402 4 rfl ?_
  refine z_iconst (v := (0 : Int32)) C dL_refuses_404 (by decide) ?_
  refine z_lS C 4 [.ref (ad 0), .int (5 : Int32), .int (16 : Int32), .int (0 : Int32)] [] (zBud_r hB) (cL_act_influence_x1 (zC_I C) (zC_st C) (n := 130) (R_influence (by decide))) gL_refuses_L_act (by decide +kernel) rfl dL_refuses_405 rfl ⟨Nat.le_of_ble_eq_true rfl, Nat.le_of_ble_eq_true rfl⟩ rfl (Nat.le_of_ble_eq_true rfl) ?_
  have C := zCT_p C (zBud_r hB); have hQ := hp _ hQ; have hB := zBud_p hB
  refine z_bipush (v := (-71 : Int32)) C dL_refuses_408 (by decide) ?_
  refine z_icmp_ne (tgt := 498) C dL_refuses_410 (by decide) (fun c => absurd (by decide) c) (fun _ => ?_)
  refine z_aload_n C dL_refuses_413 rfl 11 rfl ?_
  refine z_bipush (v := (6 : Int32)) C dL_refuses_414 (by decide) ?_
  refine z_iload C dL_refuses_416 4 rfl ?_
  refine z_iconst (v := (0 : Int32)) C dL_refuses_418 (by decide) ?_
  refine z_lS C 4 [.ref (ad 0), .int (6 : Int32), .int (16 : Int32), .int (0 : Int32)] [] (zBud_r hB) (cL_act_why_x1 (zC_I C) (zC_st C) (n := 130) (R_why1 (by decide))) gL_refuses_L_act (by decide +kernel) rfl dL_refuses_419 rfl ⟨Nat.le_of_ble_eq_true rfl, Nat.le_of_ble_eq_true rfl⟩ rfl (Nat.le_of_ble_eq_true rfl) ?_
  have C := zCT_p C (zBud_r hB); have hQ := hp _ hQ; have hB := zBud_p hB
  refine z_bipush (v := (-71 : Int32)) C dL_refuses_422 (by decide) ?_
  refine z_icmp_ne (tgt := 498) C dL_refuses_424 (by decide) (fun c => absurd (by decide) c) (fun _ => ?_)
  refine z_aload_n C dL_refuses_427 rfl 11 rfl ?_
  refine z_bipush (v := (6 : Int32)) C dL_refuses_428 (by decide) ?_
  refine z_iconst (v := (0 : Int32)) C dL_refuses_430 (by decide) ?_
  refine z_iload C dL_refuses_431 6 rfl ?_
  refine z_iconst (v := (2 : Int32)) C dL_refuses_433 (by decide) ?_
  refine z_icmp_ge (tgt := 441) C dL_refuses_434 (by decide) (fun c => absurd c (by decide)) (fun _ => ?_)
  refine z_iconst (v := (-1 : Int32)) C dL_refuses_437 (by decide) ?_
  refine z_goto (tgt := 444) C dL_refuses_438 (by decide) ?_
  refine z_lS C 4 [.ref (ad 0), .int (6 : Int32), .int (0 : Int32), .int (-1 : Int32)] [] (zBud_r hB) (cL_act_why_x1 (zC_I C) (zC_st C) (n := 130) (R_why2 (by decide) (by decide))) gL_refuses_L_act (by decide +kernel) rfl dL_refuses_444 rfl ⟨Nat.le_of_ble_eq_true rfl, Nat.le_of_ble_eq_true rfl⟩ rfl (Nat.le_of_ble_eq_true rfl) ?_
  have C := zCT_p C (zBud_r hB); have hQ := hp _ hQ; have hB := zBud_p hB
  refine z_bipush (v := (-71 : Int32)) C dL_refuses_447 (by decide) ?_
  refine z_icmp_ne (tgt := 498) C dL_refuses_449 (by decide) (fun c => absurd (by decide) c) (fun _ => ?_)
  refine z_aload_n C dL_refuses_452 rfl 11 rfl ?_
  refine z_bipush (v := (7 : Int32)) C dL_refuses_453 (by decide) ?_
  refine z_iload C dL_refuses_455 2 rfl ?_
  refine z_iconst (v := (0 : Int32)) C dL_refuses_457 (by decide) ?_
  refine z_lS C 4 [.ref (ad 0), .int (7 : Int32), .int (1000001 : Int32), .int (0 : Int32)] [] (zBud_r hB) (cL_act_bracket_x2 (zC_I C) (zC_st C) (n := 130) (R_bracket1 (by decide))) gL_refuses_L_act (by decide +kernel) rfl dL_refuses_458 rfl ⟨Nat.le_of_ble_eq_true rfl, Nat.le_of_ble_eq_true rfl⟩ rfl (Nat.le_of_ble_eq_true rfl) ?_
  have C := zCT_p C (zBud_r hB); have hQ := hp _ hQ; have hB := zBud_p hB
  refine z_bipush (v := (-72 : Int32)) C dL_refuses_461 (by decide) ?_
  refine z_icmp_ne (tgt := 498) C dL_refuses_463 (by decide) (fun c => absurd (by decide) c) (fun _ => ?_)
  refine z_aload_n C dL_refuses_466 rfl 11 rfl ?_
  refine z_bipush (v := (7 : Int32)) C dL_refuses_467 (by decide) ?_
  refine z_iconst (v := (0 : Int32)) C dL_refuses_469 (by decide) ?_
  refine z_iload C dL_refuses_470 1 rfl ?_
  refine z_lS C 4 [.ref (ad 0), .int (7 : Int32), .int (0 : Int32), .int (1001 : Int32)] [] (zBud_r hB) (cL_act_bracket_x2 (zC_I C) (zC_st C) (n := 130) (R_bracket2 (by decide) (by decide))) gL_refuses_L_act (by decide +kernel) rfl dL_refuses_472 rfl ⟨Nat.le_of_ble_eq_true rfl, Nat.le_of_ble_eq_true rfl⟩ rfl (Nat.le_of_ble_eq_true rfl) ?_
  have C := zCT_p C (zBud_r hB); have hQ := hp _ hQ; have hB := zBud_p hB
  refine z_bipush (v := (-72 : Int32)) C dL_refuses_475 (by decide) ?_
  refine z_icmp_ne (tgt := 498) C dL_refuses_477 (by decide) (fun c => absurd (by decide) c) (fun _ => ?_)
  exact kk _ C hQ hB
set_option maxRecDepth 100000 in
set_option maxHeartbeats 4000000 in
theorem wL_refuses_8 {h : zH} {ad : Nat → Nat} {G : zG} (C : zCT [] h ad zLX 12 G cL_refuses RL wsL_refuses 10 210) {QQ : zG → Prop} (hp : ∀ G, QQ G → QQ (zGp G)) (hQ : QQ G) {f : Nat} (hB : zBud G (f + 7)) {s1 : zS} {y c v : Int32} (hRI : zRI s1 y) (hc : ¬ (y ≤ y - 1 ∧ y - 1 ≤ y + 20) ∧ ¬ (y ≤ y + 21 ∧ y + 21 ≤ y + 20) ∧ ¬ (y ≤ 2147483647 ∧ (2147483647 : Int32) ≤ y + 20) ∧ ¬ (y ≤ -2147483648 ∧ (-2147483648 : Int32) ≤ y + 20)) (kk : ∀ G, zCT [] h ad zLX 12 G cL_refuses RL wsL_refuses 10 210 → QQ G → zBud G f → zV h ad zLX 12 G s1 643 [(11, .int (1 : Int32)), (10, .int (1001 : Int32)), (9, .int (1000001 : Int32)), (8, .int (1000000001 : Int32)), (7, .int (16 : Int32)), (6, .int (-2147483648 : Int32)), (5, .int (1 : Int32)), (4, .int (2147483647 : Int32)), (3, .int v), (2, .int c), (1, .int y), (0, .ref (ad 0))] []) : zV h ad zLX 12 G s1 480 [(11, .int (1 : Int32)), (10, .int (1001 : Int32)), (9, .int (1000001 : Int32)), (8, .int (1000000001 : Int32)), (7, .int (16 : Int32)), (6, .int (-2147483648 : Int32)), (5, .int (1 : Int32)), (4, .int (2147483647 : Int32)), (3, .int v), (2, .int c), (1, .int y), (0, .ref (ad 0))] [] := by
  refine z_aload_n C dL_refuses_480 rfl 11 rfl ?_
  refine z_bipush (v := (8 : Int32)) C dL_refuses_481 (by decide) ?_
  refine z_iload C dL_refuses_483 3 rfl ?_
  refine z_iconst (v := (0 : Int32)) C dL_refuses_485 (by decide) ?_
  refine z_lS C 4 [.ref (ad 0), .int (8 : Int32), .int (1000000001 : Int32), .int (0 : Int32)] [] (zBud_r hB) (cL_act_taxOn_x2 (zC_I C) (zC_st C) (n := 130) (R_taxOn (by decide))) gL_refuses_L_act (by decide +kernel) rfl dL_refuses_486 rfl ⟨Nat.le_of_ble_eq_true rfl, Nat.le_of_ble_eq_true rfl⟩ rfl (Nat.le_of_ble_eq_true rfl) ?_
  have C := zCT_p C (zBud_r hB); have hQ := hp _ hQ; have hB := zBud_p hB
  refine z_bipush (v := (-72 : Int32)) C dL_refuses_489 (by decide) ?_
  refine z_icmp_ne (tgt := 498) C dL_refuses_491 (by decide) (fun c => absurd (by decide) c) (fun _ => ?_)
  refine z_iconst (v := (1 : Int32)) C dL_refuses_494 (by decide) ?_
  refine z_goto (tgt := 499) C dL_refuses_495 (by decide) ?_
  refine z_istore (y := (1 : Int32)) (lv' := [(11, .int (1 : Int32)), (10, .int (1001 : Int32)), (9, .int (1000001 : Int32)), (8, .int (1000000001 : Int32)), (7, .int (16 : Int32)), (6, .int (-2147483648 : Int32)), (5, .int (1 : Int32)), (4, .int (2147483647 : Int32)), (3, .int v), (2, .int c), (1, .int y), (0, .ref (ad 0))]) C dL_refuses_499 (by decide) rfl rfl ?_
  refine z_iload C dL_refuses_501 0 rfl ?_
  refine z_if_eq (tgt := 699) C dL_refuses_503 (by decide) (fun c => absurd c (by decide)) (fun _ => ?_)
  refine z_aload_n C dL_refuses_506 rfl 11 rfl ?_
  refine z_bipush (v := (9 : Int32)) C dL_refuses_507 (by decide) ?_
  refine z_iload C dL_refuses_509 6 rfl ?_
  refine z_if_ne (tgt := 518) C dL_refuses_511 (by decide) (fun _ => ?_) (fun c => absurd c (by decide))
  refine z_iload C dL_refuses_518 2 rfl ?_
  refine z_iload_n C dL_refuses_520 rfl 10 rfl ?_
  refine z_lS C 4 [.ref (ad 0), .int (9 : Int32), .int (1000001 : Int32), .int y] [] (zBud_r hB) (cL_act_carry_x2 (zC_I C) (zC_st C) (n := 130) (R_carry1 (by decide))) gL_refuses_L_act (by decide +kernel) rfl dL_refuses_521 rfl ⟨Nat.le_of_ble_eq_true rfl, Nat.le_of_ble_eq_true rfl⟩ rfl (Nat.le_of_ble_eq_true rfl) ?_
  have C := zCT_p C (zBud_r hB); have hQ := hp _ hQ; have hB := zBud_p hB
  refine z_bipush (v := (-72 : Int32)) C dL_refuses_524 (by decide) ?_
  refine z_icmp_ne (tgt := 699) C dL_refuses_526 (by decide) (fun c => absurd (by decide) c) (fun _ => ?_)
  refine z_aload_n C dL_refuses_529 rfl 11 rfl ?_
  refine z_bipush (v := (9 : Int32)) C dL_refuses_530 (by decide) ?_
  refine z_iconst (v := (5 : Int32)) C dL_refuses_532 (by decide) ?_
  refine z_iload C dL_refuses_533 6 rfl ?_
  refine z_if_ne (tgt := 544) C dL_refuses_535 (by decide) (fun _ => ?_) (fun c => absurd c (by decide))
  refine z_iload C dL_refuses_544 6 rfl ?_
  refine z_iconst (v := (1 : Int32)) C dL_refuses_546 (by decide) ?_
  refine z_icmp_ne (tgt := 557) C dL_refuses_547 (by decide) (fun c => absurd (by decide) c) (fun _ => ?_)
  refine z_iload_n C dL_refuses_550 rfl 10 rfl ?_
  refine z_bipush (v := (21 : Int32)) C dL_refuses_551 (by decide) ?_
  refine z_iadd C dL_refuses_553 ?_
  refine z_goto (tgt := 559) C dL_refuses_554 (by decide) ?_
  refine z_lS C 4 [.ref (ad 0), .int (9 : Int32), .int (5 : Int32), .int (y + (21 : Int32))] [] (zBud_r hB) (cL_act_carry_x2 (zC_I C) (zC_st C) (n := 130) (R_carry2 (by decide) (by rw [hRI.2.1]; exact hc.2.1))) gL_refuses_L_act (by decide +kernel) rfl dL_refuses_559 rfl ⟨Nat.le_of_ble_eq_true rfl, Nat.le_of_ble_eq_true rfl⟩ rfl (Nat.le_of_ble_eq_true rfl) ?_
  have C := zCT_p C (zBud_r hB); have hQ := hp _ hQ; have hB := zBud_p hB
  refine z_bipush (v := (-72 : Int32)) C dL_refuses_562 (by decide) ?_
  refine z_icmp_ne (tgt := 699) C dL_refuses_564 (by decide) (fun c => absurd (by decide) c) (fun _ => ?_)
  refine z_aload_n C dL_refuses_567 rfl 11 rfl ?_
  refine z_bipush (v := (10 : Int32)) C dL_refuses_568 (by decide) ?_
  refine z_iload C dL_refuses_570 6 rfl ?_
  refine z_iconst (v := (1 : Int32)) C dL_refuses_572 (by decide) ?_
  refine z_icmp_ne (tgt := 581) C dL_refuses_573 (by decide) (fun c => absurd (by decide) c) (fun _ => ?_)
  refine z_bipush (v := (8 : Int32)) C dL_refuses_576 (by decide) ?_
  refine z_goto (tgt := 583) C dL_refuses_578 (by decide) ?_
  refine z_iconst (v := (0 : Int32)) C dL_refuses_583 (by decide) ?_
  refine z_lS C 4 [.ref (ad 0), .int (10 : Int32), .int (8 : Int32), .int (0 : Int32)] [] (zBud_r hB) (cL_act_carriedAt_x1 (zC_I C) (zC_st C) (n := 130) (R_carriedAt2 (by decide) (Int32.le_trans hRI.2.2.1 (by decide)))) gL_refuses_L_act (by decide +kernel) rfl dL_refuses_584 rfl ⟨Nat.le_of_ble_eq_true rfl, Nat.le_of_ble_eq_true rfl⟩ rfl (Nat.le_of_ble_eq_true rfl) ?_
  have C := zCT_p C (zBud_r hB); have hQ := hp _ hQ; have hB := zBud_p hB
  refine z_bipush (v := (-71 : Int32)) C dL_refuses_587 (by decide) ?_
  refine z_icmp_ne (tgt := 699) C dL_refuses_589 (by decide) (fun c => absurd (by decide) c) (fun _ => ?_)
  refine z_aload_n C dL_refuses_592 rfl 11 rfl ?_
  refine z_bipush (v := (11 : Int32)) C dL_refuses_593 (by decide) ?_
  refine z_iload C dL_refuses_595 6 rfl ?_
  refine z_if_ne (tgt := 604) C dL_refuses_597 (by decide) (fun _ => ?_) (fun c => absurd c (by decide))
  refine z_iload C dL_refuses_604 2 rfl ?_
  refine z_iconst (v := (5 : Int32)) C dL_refuses_606 (by decide) ?_
  refine z_lS C 4 [.ref (ad 0), .int (11 : Int32), .int (1000001 : Int32), .int (5 : Int32)] [] (zBud_r hB) (cL_act_addCredit_x2 (zC_I C) (zC_st C) (n := 130) (R_addCredit1 (by decide))) gL_refuses_L_act (by decide +kernel) rfl dL_refuses_607 rfl ⟨Nat.le_of_ble_eq_true rfl, Nat.le_of_ble_eq_true rfl⟩ rfl (Nat.le_of_ble_eq_true rfl) ?_
  have C := zCT_p C (zBud_r hB); have hQ := hp _ hQ; have hB := zBud_p hB
  refine z_bipush (v := (-72 : Int32)) C dL_refuses_610 (by decide) ?_
  refine z_icmp_ne (tgt := 699) C dL_refuses_612 (by decide) (fun c => absurd (by decide) c) (fun _ => ?_)
  refine z_aload_n C dL_refuses_615 rfl 11 rfl ?_
  refine z_bipush (v := (11 : Int32)) C dL_refuses_616 (by decide) ?_
  refine z_iconst (v := (5 : Int32)) C dL_refuses_618 (by decide) ?_
  refine z_iload C dL_refuses_619 1 rfl ?_
  refine z_lS C 4 [.ref (ad 0), .int (11 : Int32), .int (5 : Int32), .int (1001 : Int32)] [] (zBud_r hB) (cL_act_addCredit_x2 (zC_I C) (zC_st C) (n := 130) (R_addCredit2 (by decide) (by decide))) gL_refuses_L_act (by decide +kernel) rfl dL_refuses_621 rfl ⟨Nat.le_of_ble_eq_true rfl, Nat.le_of_ble_eq_true rfl⟩ rfl (Nat.le_of_ble_eq_true rfl) ?_
  have C := zCT_p C (zBud_r hB); have hQ := hp _ hQ; have hB := zBud_p hB
  refine z_bipush (v := (-72 : Int32)) C dL_refuses_624 (by decide) ?_
  refine z_icmp_ne (tgt := 699) C dL_refuses_626 (by decide) (fun c => absurd (by decide) c) (fun _ => ?_)
  refine z_aload_n C dL_refuses_629 rfl 11 rfl ?_
  refine z_bipush (v := (13 : Int32)) C dL_refuses_630 (by decide) ?_
  refine z_iload C dL_refuses_632 4 rfl ?_
  refine z_iconst (v := (0 : Int32)) C dL_refuses_634 (by decide) ?_
  refine z_lS C 4 [.ref (ad 0), .int (13 : Int32), .int (16 : Int32), .int (0 : Int32)] [] (zBud_r hB) (cL_act_creditAt_x1 (zC_I C) (zC_st C) (n := 130) (R_creditAt1 (by decide))) gL_refuses_L_act (by decide +kernel) rfl dL_refuses_635 rfl ⟨Nat.le_of_ble_eq_true rfl, Nat.le_of_ble_eq_true rfl⟩ rfl (Nat.le_of_ble_eq_true rfl) ?_
  have C := zCT_p C (zBud_r hB); have hQ := hp _ hQ; have hB := zBud_p hB
  refine z_bipush (v := (-71 : Int32)) C dL_refuses_638 (by decide) ?_
  refine z_icmp_ne (tgt := 699) C dL_refuses_640 (by decide) (fun c => absurd (by decide) c) (fun _ => ?_)
  exact kk _ C hQ hB
set_option maxRecDepth 100000 in
set_option maxHeartbeats 4000000 in
theorem wL_refuses_9 {h : zH} {ad : Nat → Nat} {G : zG} (C : zCT [] h ad zLX 12 G cL_refuses RL wsL_refuses 10 210) {QQ : zG → Prop} (hp : ∀ G, QQ G → QQ (zGp G)) (hQ : QQ G) {f : Nat} (hB : zBud G (f + 7)) {s1 : zS} {y c v : Int32} (hRI : zRI s1 y) (hc : ¬ (y ≤ y - 1 ∧ y - 1 ≤ y + 20) ∧ ¬ (y ≤ y + 21 ∧ y + 21 ≤ y + 20) ∧ ¬ (y ≤ 2147483647 ∧ (2147483647 : Int32) ≤ y + 20) ∧ ¬ (y ≤ -2147483648 ∧ (-2147483648 : Int32) ≤ y + 20)) (kk : ∀ G, zCT [] h ad zLX 12 G cL_refuses RL wsL_refuses 10 210 → QQ G → zBud G f → zV h ad zLX 12 G s1 191 [(10, .int (2147483647 : Int32)), (9, .int (2147483647 : Int32)), (8, .int (2147483647 : Int32)), (7, .int (2147483647 : Int32)), (6, .int (2147483647 : Int32)), (5, .int (2 : Int32)), (11, .int (1 : Int32)), (4, .int (2147483647 : Int32)), (3, .int v), (2, .int c), (1, .int y), (0, .ref (ad 0))] []) : zV h ad zLX 12 G s1 643 [(11, .int (1 : Int32)), (10, .int (1001 : Int32)), (9, .int (1000001 : Int32)), (8, .int (1000000001 : Int32)), (7, .int (16 : Int32)), (6, .int (-2147483648 : Int32)), (5, .int (1 : Int32)), (4, .int (2147483647 : Int32)), (3, .int v), (2, .int c), (1, .int y), (0, .ref (ad 0))] [] := by
  refine z_aload_n C dL_refuses_643 rfl 11 rfl ?_
  refine z_bipush (v := (13 : Int32)) C dL_refuses_644 (by decide) ?_
  refine z_iconst (v := (0 : Int32)) C dL_refuses_646 (by decide) ?_
  refine z_iload C dL_refuses_647 6 rfl ?_
  refine z_iconst (v := (1 : Int32)) C dL_refuses_649 (by decide) ?_
  refine z_icmp_ne (tgt := 657) C dL_refuses_650 (by decide) (fun c => absurd (by decide) c) (fun _ => ?_)
  refine z_iconst (v := (5 : Int32)) C dL_refuses_653 (by decide) ?_
  refine z_goto (tgt := 659) C dL_refuses_654 (by decide) ?_
  refine z_lS C 4 [.ref (ad 0), .int (13 : Int32), .int (0 : Int32), .int (5 : Int32)] [] (zBud_r hB) (cL_act_creditAt_x1 (zC_I C) (zC_st C) (n := 130) (R_creditAt3 (by decide) (by decide) (Int32.le_trans hRI.2.2.2 (by decide)))) gL_refuses_L_act (by decide +kernel) rfl dL_refuses_659 rfl ⟨Nat.le_of_ble_eq_true rfl, Nat.le_of_ble_eq_true rfl⟩ rfl (Nat.le_of_ble_eq_true rfl) ?_
  have C := zCT_p C (zBud_r hB); have hQ := hp _ hQ; have hB := zBud_p hB
  refine z_bipush (v := (-71 : Int32)) C dL_refuses_662 (by decide) ?_
  refine z_icmp_ne (tgt := 699) C dL_refuses_664 (by decide) (fun c => absurd (by decide) c) (fun _ => ?_)
  refine z_aload_n C dL_refuses_667 rfl 11 rfl ?_
  refine z_bipush (v := (14 : Int32)) C dL_refuses_668 (by decide) ?_
  refine z_iload C dL_refuses_670 4 rfl ?_
  refine z_iconst (v := (0 : Int32)) C dL_refuses_672 (by decide) ?_
  refine z_lS C 4 [.ref (ad 0), .int (14 : Int32), .int (16 : Int32), .int (0 : Int32)] [] (zBud_r hB) (cL_act_afterCredits_x1 (zC_I C) (zC_st C) (n := 130) (R_afterCredits (by decide))) gL_refuses_L_act (by decide +kernel) rfl dL_refuses_673 rfl ⟨Nat.le_of_ble_eq_true rfl, Nat.le_of_ble_eq_true rfl⟩ rfl (Nat.le_of_ble_eq_true rfl) ?_
  have C := zCT_p C (zBud_r hB); have hQ := hp _ hQ; have hB := zBud_p hB
  refine z_bipush (v := (-71 : Int32)) C dL_refuses_676 (by decide) ?_
  refine z_icmp_ne (tgt := 699) C dL_refuses_678 (by decide) (fun c => absurd (by decide) c) (fun _ => ?_)
  refine z_aload_n C dL_refuses_681 rfl 11 rfl ?_
  refine z_bipush (v := (15 : Int32)) C dL_refuses_682 (by decide) ?_
  refine z_iload C dL_refuses_684 4 rfl ?_
  refine z_iconst (v := (0 : Int32)) C dL_refuses_686 (by decide) ?_
  refine z_lS C 4 [.ref (ad 0), .int (15 : Int32), .int (16 : Int32), .int (0 : Int32)] [] (zBud_r hB) (cL_act_bestSum_x1 (zC_I C) (zC_st C) (n := 130) (R_bestSum (by decide))) gL_refuses_L_act (by decide +kernel) rfl dL_refuses_687 rfl ⟨Nat.le_of_ble_eq_true rfl, Nat.le_of_ble_eq_true rfl⟩ rfl (Nat.le_of_ble_eq_true rfl) ?_
  have C := zCT_p C (zBud_r hB); have hQ := hp _ hQ; have hB := zBud_p hB
  refine z_bipush (v := (-71 : Int32)) C dL_refuses_690 (by decide) ?_
  refine z_icmp_ne (tgt := 699) C dL_refuses_692 (by decide) (fun c => absurd (by decide) c) (fun _ => ?_)
  refine z_iconst (v := (1 : Int32)) C dL_refuses_695 (by decide) ?_
  refine z_goto (tgt := 700) C dL_refuses_696 (by decide) ?_
  refine z_istore (y := (1 : Int32)) (lv' := [(11, .int (1 : Int32)), (10, .int (1001 : Int32)), (9, .int (1000001 : Int32)), (8, .int (1000000001 : Int32)), (7, .int (16 : Int32)), (6, .int (-2147483648 : Int32)), (5, .int (1 : Int32)), (4, .int (2147483647 : Int32)), (3, .int v), (2, .int c), (1, .int y), (0, .ref (ad 0))]) C dL_refuses_700 (by decide) rfl rfl ?_
  refine z_iload C dL_refuses_702 0 rfl ?_
  refine z_if_ne (tgt := 709) C dL_refuses_704 (by decide) (fun _ => ?_) (fun c => absurd c (by decide))
  refine z_iinc (j := 6) (v := (2 : Int32)) (d := (1 : Int32)) (lv' := [(5, .int (2 : Int32)), (11, .int (1 : Int32)), (10, .int (1001 : Int32)), (9, .int (1000001 : Int32)), (8, .int (1000000001 : Int32)), (7, .int (16 : Int32)), (6, .int (-2147483648 : Int32)), (4, .int (2147483647 : Int32)), (3, .int v), (2, .int c), (1, .int y), (0, .ref (ad 0))]) C dL_refuses_709 rfl (by decide) (by decide) (by decide) rfl ?_
  refine z_goto (tgt := 24) C dL_refuses_712 (by decide) ?_
  refine z_iload C dL_refuses_24 0 rfl ?_
  refine z_iconst (v := (4 : Int32)) C dL_refuses_26 (by decide) ?_
  refine z_icmp_ge (tgt := 715) C dL_refuses_27 (by decide) (fun c => absurd c (by decide)) (fun _ => ?_)
  refine z_iload C dL_refuses_30 0 rfl ?_
  refine z_if_ne (tgt := 39) C dL_refuses_32 (by decide) (fun _ => ?_) (fun c => absurd c (by decide))
  refine z_iload C dL_refuses_39 0 rfl ?_
  refine z_iconst (v := (2 : Int32)) C dL_refuses_41 (by decide) ?_
  refine z_icmp_ne (tgt := 50) C dL_refuses_42 (by decide) (fun c => absurd (by decide) c) (fun _ => ?_)
  refine z_iload C dL_refuses_45 7 rfl ?_
  refine z_goto (tgt := 55) C dL_refuses_47 (by decide) ?_
  refine z_istore (y := (2147483647 : Int32)) (lv' := [(6, .int (2147483647 : Int32)), (5, .int (2 : Int32)), (11, .int (1 : Int32)), (10, .int (1001 : Int32)), (9, .int (1000001 : Int32)), (8, .int (1000000001 : Int32)), (7, .int (16 : Int32)), (4, .int (2147483647 : Int32)), (3, .int v), (2, .int c), (1, .int y), (0, .ref (ad 0))]) C dL_refuses_55 (by decide) rfl rfl ?_
  refine z_iload C dL_refuses_57 1 rfl ?_
  refine z_iconst (v := (1 : Int32)) C dL_refuses_59 (by decide) ?_
  refine z_icmp_ne (tgt := 68) C dL_refuses_60 (by decide) (fun _ => ?_) (fun c => absurd c (by decide))
  refine z_iload C dL_refuses_68 0 rfl ?_
  refine z_istore (y := (2147483647 : Int32)) (lv' := [(7, .int (2147483647 : Int32)), (6, .int (2147483647 : Int32)), (5, .int (2 : Int32)), (11, .int (1 : Int32)), (10, .int (1001 : Int32)), (9, .int (1000001 : Int32)), (8, .int (1000000001 : Int32)), (4, .int (2147483647 : Int32)), (3, .int v), (2, .int c), (1, .int y), (0, .ref (ad 0))]) C dL_refuses_70 (by decide) rfl rfl ?_
  refine z_iload C dL_refuses_72 2 rfl ?_
  refine z_iconst (v := (1 : Int32)) C dL_refuses_74 (by decide) ?_
  refine z_icmp_ne (tgt := 83) C dL_refuses_75 (by decide) (fun _ => ?_) (fun c => absurd c (by decide))
  refine z_iload C dL_refuses_83 1 rfl ?_
  refine z_istore (y := (2147483647 : Int32)) (lv' := [(8, .int (2147483647 : Int32)), (7, .int (2147483647 : Int32)), (6, .int (2147483647 : Int32)), (5, .int (2 : Int32)), (11, .int (1 : Int32)), (10, .int (1001 : Int32)), (9, .int (1000001 : Int32)), (4, .int (2147483647 : Int32)), (3, .int v), (2, .int c), (1, .int y), (0, .ref (ad 0))]) C dL_refuses_85 (by decide) rfl rfl ?_
  refine z_iload C dL_refuses_87 3 rfl ?_
  refine z_iconst (v := (1 : Int32)) C dL_refuses_89 (by decide) ?_
  refine z_icmp_ne (tgt := 98) C dL_refuses_90 (by decide) (fun _ => ?_) (fun c => absurd c (by decide))
  refine z_iload C dL_refuses_98 2 rfl ?_
  refine z_istore (y := (2147483647 : Int32)) (lv' := [(9, .int (2147483647 : Int32)), (8, .int (2147483647 : Int32)), (7, .int (2147483647 : Int32)), (6, .int (2147483647 : Int32)), (5, .int (2 : Int32)), (11, .int (1 : Int32)), (10, .int (1001 : Int32)), (4, .int (2147483647 : Int32)), (3, .int v), (2, .int c), (1, .int y), (0, .ref (ad 0))]) C dL_refuses_100 (by decide) rfl rfl ?_
  refine z_iload C dL_refuses_102 4 rfl ?_
  refine z_iconst (v := (1 : Int32)) C dL_refuses_104 (by decide) ?_
  refine z_icmp_ne (tgt := 114) C dL_refuses_105 (by decide) (fun _ => ?_) (fun c => absurd c (by decide))
  refine z_iload C dL_refuses_114 3 rfl ?_
  refine z_istore (y := (2147483647 : Int32)) (lv' := [(10, .int (2147483647 : Int32)), (9, .int (2147483647 : Int32)), (8, .int (2147483647 : Int32)), (7, .int (2147483647 : Int32)), (6, .int (2147483647 : Int32)), (5, .int (2 : Int32)), (11, .int (1 : Int32)), (4, .int (2147483647 : Int32)), (3, .int v), (2, .int c), (1, .int y), (0, .ref (ad 0))]) C dL_refuses_116 (by decide) rfl rfl ?_
  refine z_aload_n C dL_refuses_118 rfl 11 rfl ?_
  refine z_iload C dL_refuses_119 3 rfl ?_
  refine z_bipush (v := (99 : Int32)) C dL_refuses_121 (by decide) ?_
  refine z_iconst (v := (0 : Int32)) C dL_refuses_123 (by decide) ?_
  refine z_iconst (v := (0 : Int32)) C dL_refuses_124 (by decide) ?_
  refine z_lS C 5 [.ref (ad 0), .int (2147483647 : Int32), .int (99 : Int32), .int (0 : Int32), .int (0 : Int32)] [] (zBud_r hB) (cL_define_x1 (zC_I C) (zC_st C) (n := 130) (R_def1 (by decide))) gL_refuses_L_define (by decide +kernel) rfl dL_refuses_125 rfl ⟨Nat.le_of_ble_eq_true rfl, Nat.le_of_ble_eq_true rfl⟩ rfl (Nat.le_of_ble_eq_true rfl) ?_
  have C := zCT_p C (zBud_r hB); have hQ := hp _ hQ; have hB := zBud_p hB
  refine z_bipush (v := (-71 : Int32)) C dL_refuses_128 (by decide) ?_
  refine z_icmp_ne (tgt := 273) C dL_refuses_130 (by decide) (fun c => absurd (by decide) c) (fun _ => ?_)
  refine z_aload_n C dL_refuses_133 rfl 11 rfl ?_
  refine z_bipush (v := (15 : Int32)) C dL_refuses_134 (by decide) ?_
  refine z_iload C dL_refuses_136 5 rfl ?_
  refine z_iconst (v := (1 : Int32)) C dL_refuses_138 (by decide) ?_
  refine z_icmp_ne (tgt := 147) C dL_refuses_139 (by decide) (fun _ => ?_) (fun c => absurd c (by decide))
  refine z_iload C dL_refuses_147 4 rfl ?_
  refine z_iload C dL_refuses_149 3 rfl ?_
  refine z_iload C dL_refuses_151 3 rfl ?_
  refine z_lS C 5 [.ref (ad 0), .int (15 : Int32), .int (2147483647 : Int32), .int (2147483647 : Int32), .int (2147483647 : Int32)] [] (zBud_r hB) (cL_define_x2 (zC_I C) (zC_st C) (n := 130) (R_def2 (by decide) (by decide))) gL_refuses_L_define (by decide +kernel) rfl dL_refuses_153 rfl ⟨Nat.le_of_ble_eq_true rfl, Nat.le_of_ble_eq_true rfl⟩ rfl (Nat.le_of_ble_eq_true rfl) ?_
  have C := zCT_p C (zBud_r hB); have hQ := hp _ hQ; have hB := zBud_p hB
  refine z_bipush (v := (-72 : Int32)) C dL_refuses_156 (by decide) ?_
  refine z_icmp_ne (tgt := 273) C dL_refuses_158 (by decide) (fun c => absurd (by decide) c) (fun _ => ?_)
  refine z_aload_n C dL_refuses_161 rfl 11 rfl ?_
  refine z_bipush (v := (15 : Int32)) C dL_refuses_162 (by decide) ?_
  refine z_iconst (v := (1 : Int32)) C dL_refuses_164 (by decide) ?_
  refine z_iload C dL_refuses_165 3 rfl ?_
  refine z_iconst (v := (0 : Int32)) C dL_refuses_167 (by decide) ?_
  refine z_lS C 5 [.ref (ad 0), .int (15 : Int32), .int (1 : Int32), .int (2147483647 : Int32), .int (0 : Int32)] [] (zBud_r hB) (cL_define_x1 (zC_I C) (zC_st C) (n := 130) (R_def3 (by decide) (by decide) (by decide) (by decide))) gL_refuses_L_define (by decide +kernel) rfl dL_refuses_168 rfl ⟨Nat.le_of_ble_eq_true rfl, Nat.le_of_ble_eq_true rfl⟩ rfl (Nat.le_of_ble_eq_true rfl) ?_
  have C := zCT_p C (zBud_r hB); have hQ := hp _ hQ; have hB := zBud_p hB
  refine z_bipush (v := (-71 : Int32)) C dL_refuses_171 (by decide) ?_
  refine z_icmp_ne (tgt := 273) C dL_refuses_173 (by decide) (fun c => absurd (by decide) c) (fun _ => ?_)
  refine z_aload_n C dL_refuses_176 rfl 11 rfl ?_
  refine z_bipush (v := (15 : Int32)) C dL_refuses_177 (by decide) ?_
  refine z_iconst (v := (1 : Int32)) C dL_refuses_179 (by decide) ?_
  refine z_iconst (v := (0 : Int32)) C dL_refuses_180 (by decide) ?_
  refine z_iload C dL_refuses_181 3 rfl ?_
  refine z_lS C 5 [.ref (ad 0), .int (15 : Int32), .int (1 : Int32), .int (0 : Int32), .int (2147483647 : Int32)] [] (zBud_r hB) (cL_define_x1 (zC_I C) (zC_st C) (n := 130) (R_def4 (by decide) (by decide) (by decide) (by decide) rfl (by decide))) gL_refuses_L_define (by decide +kernel) rfl dL_refuses_183 rfl ⟨Nat.le_of_ble_eq_true rfl, Nat.le_of_ble_eq_true rfl⟩ rfl (Nat.le_of_ble_eq_true rfl) ?_
  have C := zCT_p C (zBud_r hB); have hQ := hp _ hQ; have hB := zBud_p hB
  refine z_bipush (v := (-71 : Int32)) C dL_refuses_186 (by decide) ?_
  refine z_icmp_ne (tgt := 273) C dL_refuses_188 (by decide) (fun c => absurd (by decide) c) (fun _ => ?_)
  exact kk _ C hQ hB
set_option maxRecDepth 100000 in
set_option maxHeartbeats 4000000 in
theorem wL_refuses_10 {h : zH} {ad : Nat → Nat} {G : zG} (C : zCT [] h ad zLX 12 G cL_refuses RL wsL_refuses 10 210) {QQ : zG → Prop} (hp : ∀ G, QQ G → QQ (zGp G)) (hQ : QQ G) {f : Nat} (hB : zBud G (f + 7)) {s1 : zS} {y c v : Int32} (hRI : zRI s1 y) (hc : ¬ (y ≤ y - 1 ∧ y - 1 ≤ y + 20) ∧ ¬ (y ≤ y + 21 ∧ y + 21 ≤ y + 20) ∧ ¬ (y ≤ 2147483647 ∧ (2147483647 : Int32) ≤ y + 20) ∧ ¬ (y ≤ -2147483648 ∧ (-2147483648 : Int32) ≤ y + 20)) (kk : ∀ G, zCT [] h ad zLX 12 G cL_refuses RL wsL_refuses 10 210 → QQ G → zBud G f → zV h ad zLX 12 G s1 308 [(11, .int (1 : Int32)), (10, .int (2147483647 : Int32)), (9, .int (2147483647 : Int32)), (8, .int (2147483647 : Int32)), (7, .int (2147483647 : Int32)), (6, .int (2147483647 : Int32)), (5, .int (2 : Int32)), (4, .int (2147483647 : Int32)), (3, .int v), (2, .int c), (1, .int y), (0, .ref (ad 0))] []) : zV h ad zLX 12 G s1 191 [(10, .int (2147483647 : Int32)), (9, .int (2147483647 : Int32)), (8, .int (2147483647 : Int32)), (7, .int (2147483647 : Int32)), (6, .int (2147483647 : Int32)), (5, .int (2 : Int32)), (11, .int (1 : Int32)), (4, .int (2147483647 : Int32)), (3, .int v), (2, .int c), (1, .int y), (0, .ref (ad 0))] [] := by
  refine z_aload_n C dL_refuses_191 rfl 11 rfl ?_
  refine z_bipush (v := (15 : Int32)) C dL_refuses_192 (by decide) ?_
  refine z_iconst (v := (3 : Int32)) C dL_refuses_194 (by decide) ?_
  refine z_iload C dL_refuses_195 3 rfl ?_
  refine z_iconst (v := (-1 : Int32)) C dL_refuses_197 (by decide) ?_
  refine z_lS C 5 [.ref (ad 0), .int (15 : Int32), .int (3 : Int32), .int (2147483647 : Int32), .int (-1 : Int32)] [] (zBud_r hB) (cL_define_x1 (zC_I C) (zC_st C) (n := 130) (R_def3 (by decide) (by decide) (by decide) (by decide))) gL_refuses_L_define (by decide +kernel) rfl dL_refuses_198 rfl ⟨Nat.le_of_ble_eq_true rfl, Nat.le_of_ble_eq_true rfl⟩ rfl (Nat.le_of_ble_eq_true rfl) ?_
  have C := zCT_p C (zBud_r hB); have hQ := hp _ hQ; have hB := zBud_p hB
  refine z_bipush (v := (-71 : Int32)) C dL_refuses_201 (by decide) ?_
  refine z_icmp_ne (tgt := 273) C dL_refuses_203 (by decide) (fun c => absurd (by decide) c) (fun _ => ?_)
  refine z_aload_n C dL_refuses_206 rfl 11 rfl ?_
  refine z_bipush (v := (15 : Int32)) C dL_refuses_207 (by decide) ?_
  refine z_iconst (v := (3 : Int32)) C dL_refuses_209 (by decide) ?_
  refine z_iconst (v := (0 : Int32)) C dL_refuses_210 (by decide) ?_
  refine z_iload C dL_refuses_211 0 rfl ?_
  refine z_lS C 5 [.ref (ad 0), .int (15 : Int32), .int (3 : Int32), .int (0 : Int32), .int (2147483647 : Int32)] [] (zBud_r hB) (cL_define_x2 (zC_I C) (zC_st C) (n := 130) (R_def5 (by decide) (by decide) (by decide))) gL_refuses_L_define (by decide +kernel) rfl dL_refuses_213 rfl ⟨Nat.le_of_ble_eq_true rfl, Nat.le_of_ble_eq_true rfl⟩ rfl (Nat.le_of_ble_eq_true rfl) ?_
  have C := zCT_p C (zBud_r hB); have hQ := hp _ hQ; have hB := zBud_p hB
  refine z_bipush (v := (-72 : Int32)) C dL_refuses_216 (by decide) ?_
  refine z_icmp_ne (tgt := 273) C dL_refuses_218 (by decide) (fun c => absurd (by decide) c) (fun _ => ?_)
  refine z_aload_n C dL_refuses_221 rfl 11 rfl ?_
  refine z_bipush (v := (15 : Int32)) C dL_refuses_222 (by decide) ?_
  refine z_bipush (v := (6 : Int32)) C dL_refuses_224 (by decide) ?_
  refine z_iload C dL_refuses_226 3 rfl ?_
  refine z_iconst (v := (0 : Int32)) C dL_refuses_228 (by decide) ?_
  refine z_lS C 5 [.ref (ad 0), .int (15 : Int32), .int (6 : Int32), .int (2147483647 : Int32), .int (0 : Int32)] [] (zBud_r hB) (cL_define_x1 (zC_I C) (zC_st C) (n := 130) (R_def3 (by decide) (by decide) (by decide) (by decide))) gL_refuses_L_define (by decide +kernel) rfl dL_refuses_229 rfl ⟨Nat.le_of_ble_eq_true rfl, Nat.le_of_ble_eq_true rfl⟩ rfl (Nat.le_of_ble_eq_true rfl) ?_
  have C := zCT_p C (zBud_r hB); have hQ := hp _ hQ; have hB := zBud_p hB
  refine z_bipush (v := (-71 : Int32)) C dL_refuses_232 (by decide) ?_
  refine z_icmp_ne (tgt := 273) C dL_refuses_234 (by decide) (fun c => absurd (by decide) c) (fun _ => ?_)
  refine z_aload_n C dL_refuses_237 rfl 11 rfl ?_
  refine z_bipush (v := (15 : Int32)) C dL_refuses_238 (by decide) ?_
  refine z_bipush (v := (8 : Int32)) C dL_refuses_240 (by decide) ?_
  refine z_iconst (v := (0 : Int32)) C dL_refuses_242 (by decide) ?_
  refine z_iload C dL_refuses_243 3 rfl ?_
  refine z_lS C 5 [.ref (ad 0), .int (15 : Int32), .int (8 : Int32), .int (0 : Int32), .int (2147483647 : Int32)] [] (zBud_r hB) (cL_define_x1 (zC_I C) (zC_st C) (n := 130) (R_def4 (by decide) (by decide) (by decide) (by decide) rfl (by decide))) gL_refuses_L_define (by decide +kernel) rfl dL_refuses_245 rfl ⟨Nat.le_of_ble_eq_true rfl, Nat.le_of_ble_eq_true rfl⟩ rfl (Nat.le_of_ble_eq_true rfl) ?_
  have C := zCT_p C (zBud_r hB); have hQ := hp _ hQ; have hB := zBud_p hB
  refine z_bipush (v := (-71 : Int32)) C dL_refuses_248 (by decide) ?_
  refine z_icmp_ne (tgt := 273) C dL_refuses_250 (by decide) (fun c => absurd (by decide) c) (fun _ => ?_)
  refine z_aload_n C dL_refuses_253 rfl 11 rfl ?_
  refine z_bipush (v := (15 : Int32)) C dL_refuses_254 (by decide) ?_
  refine z_bipush (v := (7 : Int32)) C dL_refuses_256 (by decide) ?_
  refine z_iload C dL_refuses_258 3 rfl ?_
  refine z_iconst (v := (0 : Int32)) C dL_refuses_260 (by decide) ?_
  refine z_lS C 5 [.ref (ad 0), .int (15 : Int32), .int (7 : Int32), .int (2147483647 : Int32), .int (0 : Int32)] [] (zBud_r hB) (cL_define_x1 (zC_I C) (zC_st C) (n := 130) (R_def3 (by decide) (by decide) (by decide) (by decide))) gL_refuses_L_define (by decide +kernel) rfl dL_refuses_261 rfl ⟨Nat.le_of_ble_eq_true rfl, Nat.le_of_ble_eq_true rfl⟩ rfl (Nat.le_of_ble_eq_true rfl) ?_
  have C := zCT_p C (zBud_r hB); have hQ := hp _ hQ; have hB := zBud_p hB
  refine z_bipush (v := (-71 : Int32)) C dL_refuses_264 (by decide) ?_
  refine z_icmp_ne (tgt := 273) C dL_refuses_266 (by decide) (fun c => absurd (by decide) c) (fun _ => ?_)
  refine z_iconst (v := (1 : Int32)) C dL_refuses_269 (by decide) ?_
  refine z_goto (tgt := 274) C dL_refuses_270 (by decide) ?_
  refine z_istore (y := (1 : Int32)) (lv' := [(11, .int (1 : Int32)), (10, .int (2147483647 : Int32)), (9, .int (2147483647 : Int32)), (8, .int (2147483647 : Int32)), (7, .int (2147483647 : Int32)), (6, .int (2147483647 : Int32)), (5, .int (2 : Int32)), (4, .int (2147483647 : Int32)), (3, .int v), (2, .int c), (1, .int y), (0, .ref (ad 0))]) C dL_refuses_274 (by decide) rfl rfl ?_
  refine z_iload C dL_refuses_276 0 rfl ?_
  refine z_if_eq (tgt := 498) C dL_refuses_278 (by decide) (fun c => absurd c (by decide)) (fun _ => ?_)
  refine z_aload_n C dL_refuses_281 rfl 11 rfl ?_
  refine z_iconst (v := (0 : Int32)) C dL_refuses_282 (by decide) ?_
  refine z_iload C dL_refuses_283 4 rfl ?_
  refine z_iconst (v := (-1 : Int32)) C dL_refuses_285 (by decide) ?_
  refine z_lS C 4 [.ref (ad 0), .int (0 : Int32), .int (2147483647 : Int32), .int (-1 : Int32)] [] (zBud_r hB) (cL_act_answer_x1 (zC_I C) (zC_st C) (n := 130) (R_answer1 (by decide))) gL_refuses_L_act (by decide +kernel) rfl dL_refuses_286 rfl ⟨Nat.le_of_ble_eq_true rfl, Nat.le_of_ble_eq_true rfl⟩ rfl (Nat.le_of_ble_eq_true rfl) ?_
  have C := zCT_p C (zBud_r hB); have hQ := hp _ hQ; have hB := zBud_p hB
  refine z_bipush (v := (-71 : Int32)) C dL_refuses_289 (by decide) ?_
  refine z_icmp_ne (tgt := 498) C dL_refuses_291 (by decide) (fun c => absurd (by decide) c) (fun _ => ?_)
  refine z_aload_n C dL_refuses_294 rfl 11 rfl ?_
  refine z_iconst (v := (0 : Int32)) C dL_refuses_295 (by decide) ?_
  refine z_bipush (v := (15 : Int32)) C dL_refuses_296 (by decide) ?_
  refine z_iload C dL_refuses_298 2 rfl ?_
  refine z_lS C 4 [.ref (ad 0), .int (0 : Int32), .int (15 : Int32), .int (2147483647 : Int32)] [] (zBud_r hB) (cL_act_answer_x2 (zC_I C) (zC_st C) (n := 130) (R_answer2 (by decide) (by decide))) gL_refuses_L_act (by decide +kernel) rfl dL_refuses_300 rfl ⟨Nat.le_of_ble_eq_true rfl, Nat.le_of_ble_eq_true rfl⟩ rfl (Nat.le_of_ble_eq_true rfl) ?_
  have C := zCT_p C (zBud_r hB); have hQ := hp _ hQ; have hB := zBud_p hB
  refine z_bipush (v := (-72 : Int32)) C dL_refuses_303 (by decide) ?_
  refine z_icmp_ne (tgt := 498) C dL_refuses_305 (by decide) (fun c => absurd (by decide) c) (fun _ => ?_)
  exact kk _ C hQ hB
set_option maxRecDepth 100000 in
set_option maxHeartbeats 4000000 in
theorem wL_refuses_11 {h : zH} {ad : Nat → Nat} {G : zG} (C : zCT [] h ad zLX 12 G cL_refuses RL wsL_refuses 10 210) {QQ : zG → Prop} (hp : ∀ G, QQ G → QQ (zGp G)) (hQ : QQ G) {f : Nat} (hB : zBud G (f + 7)) {s1 : zS} {y c v : Int32} (hRI : zRI s1 y) (hc : ¬ (y ≤ y - 1 ∧ y - 1 ≤ y + 20) ∧ ¬ (y ≤ y + 21 ∧ y + 21 ≤ y + 20) ∧ ¬ (y ≤ 2147483647 ∧ (2147483647 : Int32) ≤ y + 20) ∧ ¬ (y ≤ -2147483648 ∧ (-2147483648 : Int32) ≤ y + 20)) (kk : ∀ G, zCT [] h ad zLX 12 G cL_refuses RL wsL_refuses 10 210 → QQ G → zBud G f → zV h ad zLX 12 G s1 400 [(11, .int (1 : Int32)), (10, .int (2147483647 : Int32)), (9, .int (2147483647 : Int32)), (8, .int (2147483647 : Int32)), (7, .int (2147483647 : Int32)), (6, .int (2147483647 : Int32)), (5, .int (2 : Int32)), (4, .int (2147483647 : Int32)), (3, .int v), (2, .int c), (1, .int y), (0, .ref (ad 0))] []) : zV h ad zLX 12 G s1 308 [(11, .int (1 : Int32)), (10, .int (2147483647 : Int32)), (9, .int (2147483647 : Int32)), (8, .int (2147483647 : Int32)), (7, .int (2147483647 : Int32)), (6, .int (2147483647 : Int32)), (5, .int (2 : Int32)), (4, .int (2147483647 : Int32)), (3, .int v), (2, .int c), (1, .int y), (0, .ref (ad 0))] [] := by
  refine z_aload_n C dL_refuses_308 rfl 11 rfl ?_
  refine z_iconst (v := (1 : Int32)) C dL_refuses_309 (by decide) ?_
  refine z_iload C dL_refuses_310 4 rfl ?_
  refine z_iconst (v := (0 : Int32)) C dL_refuses_312 (by decide) ?_
  refine z_lS C 4 [.ref (ad 0), .int (1 : Int32), .int (2147483647 : Int32), .int (0 : Int32)] [] (zBud_r hB) (cL_act_kindOf_x1 (zC_I C) (zC_st C) (n := 130) (R_kindOf (by decide))) gL_refuses_L_act (by decide +kernel) rfl dL_refuses_313 rfl ⟨Nat.le_of_ble_eq_true rfl, Nat.le_of_ble_eq_true rfl⟩ rfl (Nat.le_of_ble_eq_true rfl) ?_
  have C := zCT_p C (zBud_r hB); have hQ := hp _ hQ; have hB := zBud_p hB
  refine z_bipush (v := (-71 : Int32)) C dL_refuses_316 (by decide) ?_
  refine z_icmp_ne (tgt := 498) C dL_refuses_318 (by decide) (fun c => absurd (by decide) c) (fun _ => ?_)
  refine z_aload_n C dL_refuses_321 rfl 11 rfl ?_
  refine z_iconst (v := (2 : Int32)) C dL_refuses_322 (by decide) ?_
  refine z_iload C dL_refuses_323 4 rfl ?_
  refine z_iconst (v := (0 : Int32)) C dL_refuses_325 (by decide) ?_
  refine z_lS C 4 [.ref (ad 0), .int (2 : Int32), .int (2147483647 : Int32), .int (0 : Int32)] [] (zBud_r hB) (cL_act_value_x1 (zC_I C) (zC_st C) (n := 130) (R_value (by decide))) gL_refuses_L_act (by decide +kernel) rfl dL_refuses_326 rfl ⟨Nat.le_of_ble_eq_true rfl, Nat.le_of_ble_eq_true rfl⟩ rfl (Nat.le_of_ble_eq_true rfl) ?_
  have C := zCT_p C (zBud_r hB); have hQ := hp _ hQ; have hB := zBud_p hB
  refine z_bipush (v := (-71 : Int32)) C dL_refuses_329 (by decide) ?_
  refine z_icmp_ne (tgt := 498) C dL_refuses_331 (by decide) (fun c => absurd (by decide) c) (fun _ => ?_)
  refine z_aload_n C dL_refuses_334 rfl 11 rfl ?_
  refine z_iconst (v := (3 : Int32)) C dL_refuses_335 (by decide) ?_
  refine z_iload C dL_refuses_336 4 rfl ?_
  refine z_iconst (v := (-1 : Int32)) C dL_refuses_338 (by decide) ?_
  refine z_lS C 4 [.ref (ad 0), .int (3 : Int32), .int (2147483647 : Int32), .int (-1 : Int32)] [] (zBud_r hB) (cL_act_boundFor_x1 (zC_I C) (zC_st C) (n := 130) (R_boundFor1 (by decide))) gL_refuses_L_act (by decide +kernel) rfl dL_refuses_339 rfl ⟨Nat.le_of_ble_eq_true rfl, Nat.le_of_ble_eq_true rfl⟩ rfl (Nat.le_of_ble_eq_true rfl) ?_
  have C := zCT_p C (zBud_r hB); have hQ := hp _ hQ; have hB := zBud_p hB
  refine z_bipush (v := (-71 : Int32)) C dL_refuses_342 (by decide) ?_
  refine z_icmp_ne (tgt := 498) C dL_refuses_344 (by decide) (fun c => absurd (by decide) c) (fun _ => ?_)
  refine z_aload_n C dL_refuses_347 rfl 11 rfl ?_
  refine z_iconst (v := (3 : Int32)) C dL_refuses_348 (by decide) ?_
  refine z_bipush (v := (15 : Int32)) C dL_refuses_349 (by decide) ?_
  refine z_iload C dL_refuses_351 3 rfl ?_
  refine z_lS C 4 [.ref (ad 0), .int (3 : Int32), .int (15 : Int32), .int (2147483647 : Int32)] [] (zBud_r hB) (cL_act_boundFor_x2 (zC_I C) (zC_st C) (n := 130) (R_boundFor2 (by decide) (by decide))) gL_refuses_L_act (by decide +kernel) rfl dL_refuses_353 rfl ⟨Nat.le_of_ble_eq_true rfl, Nat.le_of_ble_eq_true rfl⟩ rfl (Nat.le_of_ble_eq_true rfl) ?_
  have C := zCT_p C (zBud_r hB); have hQ := hp _ hQ; have hB := zBud_p hB
  refine z_bipush (v := (-72 : Int32)) C dL_refuses_356 (by decide) ?_
  refine z_icmp_ne (tgt := 498) C dL_refuses_358 (by decide) (fun c => absurd (by decide) c) (fun _ => ?_)
  refine z_aload_n C dL_refuses_361 rfl 11 rfl ?_
  refine z_iconst (v := (3 : Int32)) C dL_refuses_362 (by decide) ?_
  refine z_bipush (v := (15 : Int32)) C dL_refuses_363 (by decide) ?_
  refine z_iconst (v := (0 : Int32)) C dL_refuses_365 (by decide) ?_
  refine z_lS C 4 [.ref (ad 0), .int (3 : Int32), .int (15 : Int32), .int (0 : Int32)] [] (zBud_r hB) (cL_act_boundFor_x3 (zC_I C) (zC_st C) (n := 130) (R_boundFor3 hRI)) gL_refuses_L_act (by decide +kernel) rfl dL_refuses_366 rfl ⟨Nat.le_of_ble_eq_true rfl, Nat.le_of_ble_eq_true rfl⟩ rfl (Nat.le_of_ble_eq_true rfl) ?_
  have C := zCT_p C (zBud_r hB); have hQ := hp _ hQ; have hB := zBud_p hB
  refine z_bipush (v := (-73 : Int32)) C dL_refuses_369 (by decide) ?_
  refine z_icmp_ne (tgt := 498) C dL_refuses_371 (by decide) (fun c => absurd (by decide) c) (fun _ => ?_)
  refine z_aload_n C dL_refuses_374 rfl 11 rfl ?_
  refine z_iconst (v := (4 : Int32)) C dL_refuses_375 (by decide) ?_
  refine z_iload C dL_refuses_376 4 rfl ?_
  refine z_iconst (v := (0 : Int32)) C dL_refuses_378 (by decide) ?_
  refine z_lS C 4 [.ref (ad 0), .int (4 : Int32), .int (2147483647 : Int32), .int (0 : Int32)] [] (zBud_r hB) (cL_act_dependsOn_x1 (zC_I C) (zC_st C) (n := 130) (R_dependsOn1 (by decide))) gL_refuses_L_act (by decide +kernel) rfl dL_refuses_379 rfl ⟨Nat.le_of_ble_eq_true rfl, Nat.le_of_ble_eq_true rfl⟩ rfl (Nat.le_of_ble_eq_true rfl) ?_
  have C := zCT_p C (zBud_r hB); have hQ := hp _ hQ; have hB := zBud_p hB
  refine z_bipush (v := (-71 : Int32)) C dL_refuses_382 (by decide) ?_
  refine z_icmp_ne (tgt := 498) C dL_refuses_384 (by decide) (fun c => absurd (by decide) c) (fun _ => ?_)
  refine z_aload_n C dL_refuses_387 rfl 11 rfl ?_
  refine z_iconst (v := (4 : Int32)) C dL_refuses_388 (by decide) ?_
  refine z_iconst (v := (0 : Int32)) C dL_refuses_389 (by decide) ?_
  refine z_iload C dL_refuses_390 4 rfl ?_
  refine z_lS C 4 [.ref (ad 0), .int (4 : Int32), .int (0 : Int32), .int (2147483647 : Int32)] [] (zBud_r hB) (cL_act_dependsOn_x1 (zC_I C) (zC_st C) (n := 130) (R_dependsOn2 (by decide) (by decide))) gL_refuses_L_act (by decide +kernel) rfl dL_refuses_392 rfl ⟨Nat.le_of_ble_eq_true rfl, Nat.le_of_ble_eq_true rfl⟩ rfl (Nat.le_of_ble_eq_true rfl) ?_
  have C := zCT_p C (zBud_r hB); have hQ := hp _ hQ; have hB := zBud_p hB
  refine z_bipush (v := (-71 : Int32)) C dL_refuses_395 (by decide) ?_
  refine z_icmp_ne (tgt := 498) C dL_refuses_397 (by decide) (fun c => absurd (by decide) c) (fun _ => ?_)
  exact kk _ C hQ hB
set_option maxRecDepth 100000 in
set_option maxHeartbeats 4000000 in
theorem wL_refuses_12 {h : zH} {ad : Nat → Nat} {G : zG} (C : zCT [] h ad zLX 12 G cL_refuses RL wsL_refuses 10 210) {QQ : zG → Prop} (hp : ∀ G, QQ G → QQ (zGp G)) (hQ : QQ G) {f : Nat} (hB : zBud G (f + 7)) {s1 : zS} {y c v : Int32} (hRI : zRI s1 y) (hc : ¬ (y ≤ y - 1 ∧ y - 1 ≤ y + 20) ∧ ¬ (y ≤ y + 21 ∧ y + 21 ≤ y + 20) ∧ ¬ (y ≤ 2147483647 ∧ (2147483647 : Int32) ≤ y + 20) ∧ ¬ (y ≤ -2147483648 ∧ (-2147483648 : Int32) ≤ y + 20)) (kk : ∀ G, zCT [] h ad zLX 12 G cL_refuses RL wsL_refuses 10 210 → QQ G → zBud G f → zV h ad zLX 12 G s1 529 [(11, .int (1 : Int32)), (10, .int (2147483647 : Int32)), (9, .int (2147483647 : Int32)), (8, .int (2147483647 : Int32)), (7, .int (2147483647 : Int32)), (6, .int (2147483647 : Int32)), (5, .int (2 : Int32)), (4, .int (2147483647 : Int32)), (3, .int v), (2, .int c), (1, .int y), (0, .ref (ad 0))] []) : zV h ad zLX 12 G s1 400 [(11, .int (1 : Int32)), (10, .int (2147483647 : Int32)), (9, .int (2147483647 : Int32)), (8, .int (2147483647 : Int32)), (7, .int (2147483647 : Int32)), (6, .int (2147483647 : Int32)), (5, .int (2 : Int32)), (4, .int (2147483647 : Int32)), (3, .int v), (2, .int c), (1, .int y), (0, .ref (ad 0))] [] := by
  refine z_aload_n C dL_refuses_400 rfl 11 rfl ?_
  refine z_iconst (v := (5 : Int32)) C dL_refuses_401 (by decide) ?_
  refine z_iload C dL_refuses_402 4 rfl ?_
  refine z_iconst (v := (0 : Int32)) C dL_refuses_404 (by decide) ?_
  refine z_lS C 4 [.ref (ad 0), .int (5 : Int32), .int (2147483647 : Int32), .int (0 : Int32)] [] (zBud_r hB) (cL_act_influence_x1 (zC_I C) (zC_st C) (n := 130) (R_influence (by decide))) gL_refuses_L_act (by decide +kernel) rfl dL_refuses_405 rfl ⟨Nat.le_of_ble_eq_true rfl, Nat.le_of_ble_eq_true rfl⟩ rfl (Nat.le_of_ble_eq_true rfl) ?_
  have C := zCT_p C (zBud_r hB); have hQ := hp _ hQ; have hB := zBud_p hB
  refine z_bipush (v := (-71 : Int32)) C dL_refuses_408 (by decide) ?_
  refine z_icmp_ne (tgt := 498) C dL_refuses_410 (by decide) (fun c => absurd (by decide) c) (fun _ => ?_)
  refine z_aload_n C dL_refuses_413 rfl 11 rfl ?_
  refine z_bipush (v := (6 : Int32)) C dL_refuses_414 (by decide) ?_
  refine z_iload C dL_refuses_416 4 rfl ?_
  refine z_iconst (v := (0 : Int32)) C dL_refuses_418 (by decide) ?_
  refine z_lS C 4 [.ref (ad 0), .int (6 : Int32), .int (2147483647 : Int32), .int (0 : Int32)] [] (zBud_r hB) (cL_act_why_x1 (zC_I C) (zC_st C) (n := 130) (R_why1 (by decide))) gL_refuses_L_act (by decide +kernel) rfl dL_refuses_419 rfl ⟨Nat.le_of_ble_eq_true rfl, Nat.le_of_ble_eq_true rfl⟩ rfl (Nat.le_of_ble_eq_true rfl) ?_
  have C := zCT_p C (zBud_r hB); have hQ := hp _ hQ; have hB := zBud_p hB
  refine z_bipush (v := (-71 : Int32)) C dL_refuses_422 (by decide) ?_
  refine z_icmp_ne (tgt := 498) C dL_refuses_424 (by decide) (fun c => absurd (by decide) c) (fun _ => ?_)
  refine z_aload_n C dL_refuses_427 rfl 11 rfl ?_
  refine z_bipush (v := (6 : Int32)) C dL_refuses_428 (by decide) ?_
  refine z_iconst (v := (0 : Int32)) C dL_refuses_430 (by decide) ?_
  refine z_iload C dL_refuses_431 6 rfl ?_
  refine z_iconst (v := (2 : Int32)) C dL_refuses_433 (by decide) ?_
  refine z_icmp_ge (tgt := 441) C dL_refuses_434 (by decide) (fun _ => ?_) (fun c => absurd (by decide) c)
  refine z_iload C dL_refuses_441 7 rfl ?_
  refine z_ineg C dL_refuses_443 ?_
  refine z_top (y := (-2147483647 : Int32)) (by decide) ?_
  refine z_lS C 4 [.ref (ad 0), .int (6 : Int32), .int (0 : Int32), .int (-2147483647 : Int32)] [] (zBud_r hB) (cL_act_why_x1 (zC_I C) (zC_st C) (n := 130) (R_why2 (by decide) (by decide))) gL_refuses_L_act (by decide +kernel) rfl dL_refuses_444 rfl ⟨Nat.le_of_ble_eq_true rfl, Nat.le_of_ble_eq_true rfl⟩ rfl (Nat.le_of_ble_eq_true rfl) ?_
  have C := zCT_p C (zBud_r hB); have hQ := hp _ hQ; have hB := zBud_p hB
  refine z_bipush (v := (-71 : Int32)) C dL_refuses_447 (by decide) ?_
  refine z_icmp_ne (tgt := 498) C dL_refuses_449 (by decide) (fun c => absurd (by decide) c) (fun _ => ?_)
  refine z_aload_n C dL_refuses_452 rfl 11 rfl ?_
  refine z_bipush (v := (7 : Int32)) C dL_refuses_453 (by decide) ?_
  refine z_iload C dL_refuses_455 2 rfl ?_
  refine z_iconst (v := (0 : Int32)) C dL_refuses_457 (by decide) ?_
  refine z_lS C 4 [.ref (ad 0), .int (7 : Int32), .int (2147483647 : Int32), .int (0 : Int32)] [] (zBud_r hB) (cL_act_bracket_x2 (zC_I C) (zC_st C) (n := 130) (R_bracket1 (by decide))) gL_refuses_L_act (by decide +kernel) rfl dL_refuses_458 rfl ⟨Nat.le_of_ble_eq_true rfl, Nat.le_of_ble_eq_true rfl⟩ rfl (Nat.le_of_ble_eq_true rfl) ?_
  have C := zCT_p C (zBud_r hB); have hQ := hp _ hQ; have hB := zBud_p hB
  refine z_bipush (v := (-72 : Int32)) C dL_refuses_461 (by decide) ?_
  refine z_icmp_ne (tgt := 498) C dL_refuses_463 (by decide) (fun c => absurd (by decide) c) (fun _ => ?_)
  refine z_aload_n C dL_refuses_466 rfl 11 rfl ?_
  refine z_bipush (v := (7 : Int32)) C dL_refuses_467 (by decide) ?_
  refine z_iconst (v := (0 : Int32)) C dL_refuses_469 (by decide) ?_
  refine z_iload C dL_refuses_470 1 rfl ?_
  refine z_lS C 4 [.ref (ad 0), .int (7 : Int32), .int (0 : Int32), .int (2147483647 : Int32)] [] (zBud_r hB) (cL_act_bracket_x2 (zC_I C) (zC_st C) (n := 130) (R_bracket2 (by decide) (by decide))) gL_refuses_L_act (by decide +kernel) rfl dL_refuses_472 rfl ⟨Nat.le_of_ble_eq_true rfl, Nat.le_of_ble_eq_true rfl⟩ rfl (Nat.le_of_ble_eq_true rfl) ?_
  have C := zCT_p C (zBud_r hB); have hQ := hp _ hQ; have hB := zBud_p hB
  refine z_bipush (v := (-72 : Int32)) C dL_refuses_475 (by decide) ?_
  refine z_icmp_ne (tgt := 498) C dL_refuses_477 (by decide) (fun c => absurd (by decide) c) (fun _ => ?_)
  refine z_aload_n C dL_refuses_480 rfl 11 rfl ?_
  refine z_bipush (v := (8 : Int32)) C dL_refuses_481 (by decide) ?_
  refine z_iload C dL_refuses_483 3 rfl ?_
  refine z_iconst (v := (0 : Int32)) C dL_refuses_485 (by decide) ?_
  refine z_lS C 4 [.ref (ad 0), .int (8 : Int32), .int (2147483647 : Int32), .int (0 : Int32)] [] (zBud_r hB) (cL_act_taxOn_x2 (zC_I C) (zC_st C) (n := 130) (R_taxOn (by decide))) gL_refuses_L_act (by decide +kernel) rfl dL_refuses_486 rfl ⟨Nat.le_of_ble_eq_true rfl, Nat.le_of_ble_eq_true rfl⟩ rfl (Nat.le_of_ble_eq_true rfl) ?_
  have C := zCT_p C (zBud_r hB); have hQ := hp _ hQ; have hB := zBud_p hB
  refine z_bipush (v := (-72 : Int32)) C dL_refuses_489 (by decide) ?_
  refine z_icmp_ne (tgt := 498) C dL_refuses_491 (by decide) (fun c => absurd (by decide) c) (fun _ => ?_)
  refine z_iconst (v := (1 : Int32)) C dL_refuses_494 (by decide) ?_
  refine z_goto (tgt := 499) C dL_refuses_495 (by decide) ?_
  refine z_istore (y := (1 : Int32)) (lv' := [(11, .int (1 : Int32)), (10, .int (2147483647 : Int32)), (9, .int (2147483647 : Int32)), (8, .int (2147483647 : Int32)), (7, .int (2147483647 : Int32)), (6, .int (2147483647 : Int32)), (5, .int (2 : Int32)), (4, .int (2147483647 : Int32)), (3, .int v), (2, .int c), (1, .int y), (0, .ref (ad 0))]) C dL_refuses_499 (by decide) rfl rfl ?_
  refine z_iload C dL_refuses_501 0 rfl ?_
  refine z_if_eq (tgt := 699) C dL_refuses_503 (by decide) (fun c => absurd c (by decide)) (fun _ => ?_)
  refine z_aload_n C dL_refuses_506 rfl 11 rfl ?_
  refine z_bipush (v := (9 : Int32)) C dL_refuses_507 (by decide) ?_
  refine z_iload C dL_refuses_509 6 rfl ?_
  refine z_if_ne (tgt := 518) C dL_refuses_511 (by decide) (fun _ => ?_) (fun c => absurd c (by decide))
  refine z_iload C dL_refuses_518 2 rfl ?_
  refine z_iload_n C dL_refuses_520 rfl 10 rfl ?_
  refine z_lS C 4 [.ref (ad 0), .int (9 : Int32), .int (2147483647 : Int32), .int y] [] (zBud_r hB) (cL_act_carry_x2 (zC_I C) (zC_st C) (n := 130) (R_carry1 (by decide))) gL_refuses_L_act (by decide +kernel) rfl dL_refuses_521 rfl ⟨Nat.le_of_ble_eq_true rfl, Nat.le_of_ble_eq_true rfl⟩ rfl (Nat.le_of_ble_eq_true rfl) ?_
  have C := zCT_p C (zBud_r hB); have hQ := hp _ hQ; have hB := zBud_p hB
  refine z_bipush (v := (-72 : Int32)) C dL_refuses_524 (by decide) ?_
  refine z_icmp_ne (tgt := 699) C dL_refuses_526 (by decide) (fun c => absurd (by decide) c) (fun _ => ?_)
  exact kk _ C hQ hB
set_option maxRecDepth 100000 in
set_option maxHeartbeats 4000000 in
theorem wL_refuses_13 {h : zH} {ad : Nat → Nat} {G : zG} (C : zCT [] h ad zLX 12 G cL_refuses RL wsL_refuses 10 210) {QQ : zG → Prop} (hp : ∀ G, QQ G → QQ (zGp G)) (hQ : QQ G) {f : Nat} (hB : zBud G (f + 7)) {s1 : zS} {y c v : Int32} (hRI : zRI s1 y) (hc : ¬ (y ≤ y - 1 ∧ y - 1 ≤ y + 20) ∧ ¬ (y ≤ y + 21 ∧ y + 21 ≤ y + 20) ∧ ¬ (y ≤ 2147483647 ∧ (2147483647 : Int32) ≤ y + 20) ∧ ¬ (y ≤ -2147483648 ∧ (-2147483648 : Int32) ≤ y + 20)) (kk : ∀ G, zCT [] h ad zLX 12 G cL_refuses RL wsL_refuses 10 210 → QQ G → zBud G f → zV h ad zLX 12 G s1 681 [(11, .int (1 : Int32)), (10, .int (2147483647 : Int32)), (9, .int (2147483647 : Int32)), (8, .int (2147483647 : Int32)), (7, .int (2147483647 : Int32)), (6, .int (2147483647 : Int32)), (5, .int (2 : Int32)), (4, .int (2147483647 : Int32)), (3, .int v), (2, .int c), (1, .int y), (0, .ref (ad 0))] []) : zV h ad zLX 12 G s1 529 [(11, .int (1 : Int32)), (10, .int (2147483647 : Int32)), (9, .int (2147483647 : Int32)), (8, .int (2147483647 : Int32)), (7, .int (2147483647 : Int32)), (6, .int (2147483647 : Int32)), (5, .int (2 : Int32)), (4, .int (2147483647 : Int32)), (3, .int v), (2, .int c), (1, .int y), (0, .ref (ad 0))] [] := by
  refine z_aload_n C dL_refuses_529 rfl 11 rfl ?_
  refine z_bipush (v := (9 : Int32)) C dL_refuses_530 (by decide) ?_
  refine z_iconst (v := (5 : Int32)) C dL_refuses_532 (by decide) ?_
  refine z_iload C dL_refuses_533 6 rfl ?_
  refine z_if_ne (tgt := 544) C dL_refuses_535 (by decide) (fun _ => ?_) (fun c => absurd c (by decide))
  refine z_iload C dL_refuses_544 6 rfl ?_
  refine z_iconst (v := (1 : Int32)) C dL_refuses_546 (by decide) ?_
  refine z_icmp_ne (tgt := 557) C dL_refuses_547 (by decide) (fun _ => ?_) (fun c => absurd c (by decide))
  refine z_iload C dL_refuses_557 5 rfl ?_
  refine z_lS C 4 [.ref (ad 0), .int (9 : Int32), .int (5 : Int32), .int (2147483647 : Int32)] [] (zBud_r hB) (cL_act_carry_x2 (zC_I C) (zC_st C) (n := 130) (R_carry2 (by decide) (by rw [hRI.2.1]; exact hc.2.2.1))) gL_refuses_L_act (by decide +kernel) rfl dL_refuses_559 rfl ⟨Nat.le_of_ble_eq_true rfl, Nat.le_of_ble_eq_true rfl⟩ rfl (Nat.le_of_ble_eq_true rfl) ?_
  have C := zCT_p C (zBud_r hB); have hQ := hp _ hQ; have hB := zBud_p hB
  refine z_bipush (v := (-72 : Int32)) C dL_refuses_562 (by decide) ?_
  refine z_icmp_ne (tgt := 699) C dL_refuses_564 (by decide) (fun c => absurd (by decide) c) (fun _ => ?_)
  refine z_aload_n C dL_refuses_567 rfl 11 rfl ?_
  refine z_bipush (v := (10 : Int32)) C dL_refuses_568 (by decide) ?_
  refine z_iload C dL_refuses_570 6 rfl ?_
  refine z_iconst (v := (1 : Int32)) C dL_refuses_572 (by decide) ?_
  refine z_icmp_ne (tgt := 581) C dL_refuses_573 (by decide) (fun _ => ?_) (fun c => absurd c (by decide))
  refine z_iload C dL_refuses_581 5 rfl ?_
  refine z_iconst (v := (0 : Int32)) C dL_refuses_583 (by decide) ?_
  refine z_lS C 4 [.ref (ad 0), .int (10 : Int32), .int (2147483647 : Int32), .int (0 : Int32)] [] (zBud_r hB) (cL_act_carriedAt_x1 (zC_I C) (zC_st C) (n := 130) (R_carriedAt2 (by decide) (Int32.le_trans hRI.2.2.1 (by decide)))) gL_refuses_L_act (by decide +kernel) rfl dL_refuses_584 rfl ⟨Nat.le_of_ble_eq_true rfl, Nat.le_of_ble_eq_true rfl⟩ rfl (Nat.le_of_ble_eq_true rfl) ?_
  have C := zCT_p C (zBud_r hB); have hQ := hp _ hQ; have hB := zBud_p hB
  refine z_bipush (v := (-71 : Int32)) C dL_refuses_587 (by decide) ?_
  refine z_icmp_ne (tgt := 699) C dL_refuses_589 (by decide) (fun c => absurd (by decide) c) (fun _ => ?_)
  refine z_aload_n C dL_refuses_592 rfl 11 rfl ?_
  refine z_bipush (v := (11 : Int32)) C dL_refuses_593 (by decide) ?_
  refine z_iload C dL_refuses_595 6 rfl ?_
  refine z_if_ne (tgt := 604) C dL_refuses_597 (by decide) (fun _ => ?_) (fun c => absurd c (by decide))
  refine z_iload C dL_refuses_604 2 rfl ?_
  refine z_iconst (v := (5 : Int32)) C dL_refuses_606 (by decide) ?_
  refine z_lS C 4 [.ref (ad 0), .int (11 : Int32), .int (2147483647 : Int32), .int (5 : Int32)] [] (zBud_r hB) (cL_act_addCredit_x2 (zC_I C) (zC_st C) (n := 130) (R_addCredit1 (by decide))) gL_refuses_L_act (by decide +kernel) rfl dL_refuses_607 rfl ⟨Nat.le_of_ble_eq_true rfl, Nat.le_of_ble_eq_true rfl⟩ rfl (Nat.le_of_ble_eq_true rfl) ?_
  have C := zCT_p C (zBud_r hB); have hQ := hp _ hQ; have hB := zBud_p hB
  refine z_bipush (v := (-72 : Int32)) C dL_refuses_610 (by decide) ?_
  refine z_icmp_ne (tgt := 699) C dL_refuses_612 (by decide) (fun c => absurd (by decide) c) (fun _ => ?_)
  refine z_aload_n C dL_refuses_615 rfl 11 rfl ?_
  refine z_bipush (v := (11 : Int32)) C dL_refuses_616 (by decide) ?_
  refine z_iconst (v := (5 : Int32)) C dL_refuses_618 (by decide) ?_
  refine z_iload C dL_refuses_619 1 rfl ?_
  refine z_lS C 4 [.ref (ad 0), .int (11 : Int32), .int (5 : Int32), .int (2147483647 : Int32)] [] (zBud_r hB) (cL_act_addCredit_x2 (zC_I C) (zC_st C) (n := 130) (R_addCredit2 (by decide) (by decide))) gL_refuses_L_act (by decide +kernel) rfl dL_refuses_621 rfl ⟨Nat.le_of_ble_eq_true rfl, Nat.le_of_ble_eq_true rfl⟩ rfl (Nat.le_of_ble_eq_true rfl) ?_
  have C := zCT_p C (zBud_r hB); have hQ := hp _ hQ; have hB := zBud_p hB
  refine z_bipush (v := (-72 : Int32)) C dL_refuses_624 (by decide) ?_
  refine z_icmp_ne (tgt := 699) C dL_refuses_626 (by decide) (fun c => absurd (by decide) c) (fun _ => ?_)
  refine z_aload_n C dL_refuses_629 rfl 11 rfl ?_
  refine z_bipush (v := (13 : Int32)) C dL_refuses_630 (by decide) ?_
  refine z_iload C dL_refuses_632 4 rfl ?_
  refine z_iconst (v := (0 : Int32)) C dL_refuses_634 (by decide) ?_
  refine z_lS C 4 [.ref (ad 0), .int (13 : Int32), .int (2147483647 : Int32), .int (0 : Int32)] [] (zBud_r hB) (cL_act_creditAt_x1 (zC_I C) (zC_st C) (n := 130) (R_creditAt1 (by decide))) gL_refuses_L_act (by decide +kernel) rfl dL_refuses_635 rfl ⟨Nat.le_of_ble_eq_true rfl, Nat.le_of_ble_eq_true rfl⟩ rfl (Nat.le_of_ble_eq_true rfl) ?_
  have C := zCT_p C (zBud_r hB); have hQ := hp _ hQ; have hB := zBud_p hB
  refine z_bipush (v := (-71 : Int32)) C dL_refuses_638 (by decide) ?_
  refine z_icmp_ne (tgt := 699) C dL_refuses_640 (by decide) (fun c => absurd (by decide) c) (fun _ => ?_)
  refine z_aload_n C dL_refuses_643 rfl 11 rfl ?_
  refine z_bipush (v := (13 : Int32)) C dL_refuses_644 (by decide) ?_
  refine z_iconst (v := (0 : Int32)) C dL_refuses_646 (by decide) ?_
  refine z_iload C dL_refuses_647 6 rfl ?_
  refine z_iconst (v := (1 : Int32)) C dL_refuses_649 (by decide) ?_
  refine z_icmp_ne (tgt := 657) C dL_refuses_650 (by decide) (fun _ => ?_) (fun c => absurd c (by decide))
  refine z_iload C dL_refuses_657 5 rfl ?_
  refine z_lS C 4 [.ref (ad 0), .int (13 : Int32), .int (0 : Int32), .int (2147483647 : Int32)] [] (zBud_r hB) (cL_act_creditAt_x1 (zC_I C) (zC_st C) (n := 130) (R_creditAt3 (by decide) (by decide) (Int32.le_trans hRI.2.2.2 (by decide)))) gL_refuses_L_act (by decide +kernel) rfl dL_refuses_659 rfl ⟨Nat.le_of_ble_eq_true rfl, Nat.le_of_ble_eq_true rfl⟩ rfl (Nat.le_of_ble_eq_true rfl) ?_
  have C := zCT_p C (zBud_r hB); have hQ := hp _ hQ; have hB := zBud_p hB
  refine z_bipush (v := (-71 : Int32)) C dL_refuses_662 (by decide) ?_
  refine z_icmp_ne (tgt := 699) C dL_refuses_664 (by decide) (fun c => absurd (by decide) c) (fun _ => ?_)
  refine z_aload_n C dL_refuses_667 rfl 11 rfl ?_
  refine z_bipush (v := (14 : Int32)) C dL_refuses_668 (by decide) ?_
  refine z_iload C dL_refuses_670 4 rfl ?_
  refine z_iconst (v := (0 : Int32)) C dL_refuses_672 (by decide) ?_
  refine z_lS C 4 [.ref (ad 0), .int (14 : Int32), .int (2147483647 : Int32), .int (0 : Int32)] [] (zBud_r hB) (cL_act_afterCredits_x1 (zC_I C) (zC_st C) (n := 130) (R_afterCredits (by decide))) gL_refuses_L_act (by decide +kernel) rfl dL_refuses_673 rfl ⟨Nat.le_of_ble_eq_true rfl, Nat.le_of_ble_eq_true rfl⟩ rfl (Nat.le_of_ble_eq_true rfl) ?_
  have C := zCT_p C (zBud_r hB); have hQ := hp _ hQ; have hB := zBud_p hB
  refine z_bipush (v := (-71 : Int32)) C dL_refuses_676 (by decide) ?_
  refine z_icmp_ne (tgt := 699) C dL_refuses_678 (by decide) (fun c => absurd (by decide) c) (fun _ => ?_)
  exact kk _ C hQ hB
set_option maxRecDepth 100000 in
set_option maxHeartbeats 4000000 in
theorem wL_refuses_14 {h : zH} {ad : Nat → Nat} {G : zG} (C : zCT [] h ad zLX 12 G cL_refuses RL wsL_refuses 10 210) {QQ : zG → Prop} (hp : ∀ G, QQ G → QQ (zGp G)) (hQ : QQ G) {f : Nat} (hB : zBud G (f + 7)) {s1 : zS} {y c v : Int32} (hRI : zRI s1 y) (hc : ¬ (y ≤ y - 1 ∧ y - 1 ≤ y + 20) ∧ ¬ (y ≤ y + 21 ∧ y + 21 ≤ y + 20) ∧ ¬ (y ≤ 2147483647 ∧ (2147483647 : Int32) ≤ y + 20) ∧ ¬ (y ≤ -2147483648 ∧ (-2147483648 : Int32) ≤ y + 20)) (kk : ∀ G, zCT [] h ad zLX 12 G cL_refuses RL wsL_refuses 10 210 → QQ G → zBud G f → zV h ad zLX 12 G s1 221 [(10, .int (-2147483648 : Int32)), (9, .int (-2147483648 : Int32)), (8, .int (-2147483648 : Int32)), (7, .int (-2147483648 : Int32)), (6, .int (-2147483648 : Int32)), (5, .int (3 : Int32)), (11, .int (1 : Int32)), (4, .int (2147483647 : Int32)), (3, .int v), (2, .int c), (1, .int y), (0, .ref (ad 0))] []) : zV h ad zLX 12 G s1 681 [(11, .int (1 : Int32)), (10, .int (2147483647 : Int32)), (9, .int (2147483647 : Int32)), (8, .int (2147483647 : Int32)), (7, .int (2147483647 : Int32)), (6, .int (2147483647 : Int32)), (5, .int (2 : Int32)), (4, .int (2147483647 : Int32)), (3, .int v), (2, .int c), (1, .int y), (0, .ref (ad 0))] [] := by
  refine z_aload_n C dL_refuses_681 rfl 11 rfl ?_
  refine z_bipush (v := (15 : Int32)) C dL_refuses_682 (by decide) ?_
  refine z_iload C dL_refuses_684 4 rfl ?_
  refine z_iconst (v := (0 : Int32)) C dL_refuses_686 (by decide) ?_
  refine z_lS C 4 [.ref (ad 0), .int (15 : Int32), .int (2147483647 : Int32), .int (0 : Int32)] [] (zBud_r hB) (cL_act_bestSum_x1 (zC_I C) (zC_st C) (n := 130) (R_bestSum (by decide))) gL_refuses_L_act (by decide +kernel) rfl dL_refuses_687 rfl ⟨Nat.le_of_ble_eq_true rfl, Nat.le_of_ble_eq_true rfl⟩ rfl (Nat.le_of_ble_eq_true rfl) ?_
  have C := zCT_p C (zBud_r hB); have hQ := hp _ hQ; have hB := zBud_p hB
  refine z_bipush (v := (-71 : Int32)) C dL_refuses_690 (by decide) ?_
  refine z_icmp_ne (tgt := 699) C dL_refuses_692 (by decide) (fun c => absurd (by decide) c) (fun _ => ?_)
  refine z_iconst (v := (1 : Int32)) C dL_refuses_695 (by decide) ?_
  refine z_goto (tgt := 700) C dL_refuses_696 (by decide) ?_
  refine z_istore (y := (1 : Int32)) (lv' := [(11, .int (1 : Int32)), (10, .int (2147483647 : Int32)), (9, .int (2147483647 : Int32)), (8, .int (2147483647 : Int32)), (7, .int (2147483647 : Int32)), (6, .int (2147483647 : Int32)), (5, .int (2 : Int32)), (4, .int (2147483647 : Int32)), (3, .int v), (2, .int c), (1, .int y), (0, .ref (ad 0))]) C dL_refuses_700 (by decide) rfl rfl ?_
  refine z_iload C dL_refuses_702 0 rfl ?_
  refine z_if_ne (tgt := 709) C dL_refuses_704 (by decide) (fun _ => ?_) (fun c => absurd c (by decide))
  refine z_iinc (j := 6) (v := (3 : Int32)) (d := (1 : Int32)) (lv' := [(5, .int (3 : Int32)), (11, .int (1 : Int32)), (10, .int (2147483647 : Int32)), (9, .int (2147483647 : Int32)), (8, .int (2147483647 : Int32)), (7, .int (2147483647 : Int32)), (6, .int (2147483647 : Int32)), (4, .int (2147483647 : Int32)), (3, .int v), (2, .int c), (1, .int y), (0, .ref (ad 0))]) C dL_refuses_709 rfl (by decide) (by decide) (by decide) rfl ?_
  refine z_goto (tgt := 24) C dL_refuses_712 (by decide) ?_
  refine z_iload C dL_refuses_24 0 rfl ?_
  refine z_iconst (v := (4 : Int32)) C dL_refuses_26 (by decide) ?_
  refine z_icmp_ge (tgt := 715) C dL_refuses_27 (by decide) (fun c => absurd c (by decide)) (fun _ => ?_)
  refine z_iload C dL_refuses_30 0 rfl ?_
  refine z_if_ne (tgt := 39) C dL_refuses_32 (by decide) (fun _ => ?_) (fun c => absurd c (by decide))
  refine z_iload C dL_refuses_39 0 rfl ?_
  refine z_iconst (v := (2 : Int32)) C dL_refuses_41 (by decide) ?_
  refine z_icmp_ne (tgt := 50) C dL_refuses_42 (by decide) (fun _ => ?_) (fun c => absurd c (by decide))
  refine z_iload C dL_refuses_50 7 rfl ?_
  refine z_ineg C dL_refuses_52 ?_
  refine z_top (y := (-2147483647 : Int32)) (by decide) ?_
  refine z_iconst (v := (1 : Int32)) C dL_refuses_53 (by decide) ?_
  refine z_isub C dL_refuses_54 ?_
  refine z_top (y := (-2147483648 : Int32)) (by decide) ?_
  refine z_istore (y := (-2147483648 : Int32)) (lv' := [(6, .int (-2147483648 : Int32)), (5, .int (3 : Int32)), (11, .int (1 : Int32)), (10, .int (2147483647 : Int32)), (9, .int (2147483647 : Int32)), (8, .int (2147483647 : Int32)), (7, .int (2147483647 : Int32)), (4, .int (2147483647 : Int32)), (3, .int v), (2, .int c), (1, .int y), (0, .ref (ad 0))]) C dL_refuses_55 (by decide) rfl rfl ?_
  refine z_iload C dL_refuses_57 1 rfl ?_
  refine z_iconst (v := (1 : Int32)) C dL_refuses_59 (by decide) ?_
  refine z_icmp_ne (tgt := 68) C dL_refuses_60 (by decide) (fun _ => ?_) (fun c => absurd c (by decide))
  refine z_iload C dL_refuses_68 0 rfl ?_
  refine z_istore (y := (-2147483648 : Int32)) (lv' := [(7, .int (-2147483648 : Int32)), (6, .int (-2147483648 : Int32)), (5, .int (3 : Int32)), (11, .int (1 : Int32)), (10, .int (2147483647 : Int32)), (9, .int (2147483647 : Int32)), (8, .int (2147483647 : Int32)), (4, .int (2147483647 : Int32)), (3, .int v), (2, .int c), (1, .int y), (0, .ref (ad 0))]) C dL_refuses_70 (by decide) rfl rfl ?_
  refine z_iload C dL_refuses_72 2 rfl ?_
  refine z_iconst (v := (1 : Int32)) C dL_refuses_74 (by decide) ?_
  refine z_icmp_ne (tgt := 83) C dL_refuses_75 (by decide) (fun _ => ?_) (fun c => absurd c (by decide))
  refine z_iload C dL_refuses_83 1 rfl ?_
  refine z_istore (y := (-2147483648 : Int32)) (lv' := [(8, .int (-2147483648 : Int32)), (7, .int (-2147483648 : Int32)), (6, .int (-2147483648 : Int32)), (5, .int (3 : Int32)), (11, .int (1 : Int32)), (10, .int (2147483647 : Int32)), (9, .int (2147483647 : Int32)), (4, .int (2147483647 : Int32)), (3, .int v), (2, .int c), (1, .int y), (0, .ref (ad 0))]) C dL_refuses_85 (by decide) rfl rfl ?_
  refine z_iload C dL_refuses_87 3 rfl ?_
  refine z_iconst (v := (1 : Int32)) C dL_refuses_89 (by decide) ?_
  refine z_icmp_ne (tgt := 98) C dL_refuses_90 (by decide) (fun _ => ?_) (fun c => absurd c (by decide))
  refine z_iload C dL_refuses_98 2 rfl ?_
  refine z_istore (y := (-2147483648 : Int32)) (lv' := [(9, .int (-2147483648 : Int32)), (8, .int (-2147483648 : Int32)), (7, .int (-2147483648 : Int32)), (6, .int (-2147483648 : Int32)), (5, .int (3 : Int32)), (11, .int (1 : Int32)), (10, .int (2147483647 : Int32)), (4, .int (2147483647 : Int32)), (3, .int v), (2, .int c), (1, .int y), (0, .ref (ad 0))]) C dL_refuses_100 (by decide) rfl rfl ?_
  refine z_iload C dL_refuses_102 4 rfl ?_
  refine z_iconst (v := (1 : Int32)) C dL_refuses_104 (by decide) ?_
  refine z_icmp_ne (tgt := 114) C dL_refuses_105 (by decide) (fun _ => ?_) (fun c => absurd c (by decide))
  refine z_iload C dL_refuses_114 3 rfl ?_
  refine z_istore (y := (-2147483648 : Int32)) (lv' := [(10, .int (-2147483648 : Int32)), (9, .int (-2147483648 : Int32)), (8, .int (-2147483648 : Int32)), (7, .int (-2147483648 : Int32)), (6, .int (-2147483648 : Int32)), (5, .int (3 : Int32)), (11, .int (1 : Int32)), (4, .int (2147483647 : Int32)), (3, .int v), (2, .int c), (1, .int y), (0, .ref (ad 0))]) C dL_refuses_116 (by decide) rfl rfl ?_
  refine z_aload_n C dL_refuses_118 rfl 11 rfl ?_
  refine z_iload C dL_refuses_119 3 rfl ?_
  refine z_bipush (v := (99 : Int32)) C dL_refuses_121 (by decide) ?_
  refine z_iconst (v := (0 : Int32)) C dL_refuses_123 (by decide) ?_
  refine z_iconst (v := (0 : Int32)) C dL_refuses_124 (by decide) ?_
  refine z_lS C 5 [.ref (ad 0), .int (-2147483648 : Int32), .int (99 : Int32), .int (0 : Int32), .int (0 : Int32)] [] (zBud_r hB) (cL_define_x1 (zC_I C) (zC_st C) (n := 130) (R_def1 (by decide))) gL_refuses_L_define (by decide +kernel) rfl dL_refuses_125 rfl ⟨Nat.le_of_ble_eq_true rfl, Nat.le_of_ble_eq_true rfl⟩ rfl (Nat.le_of_ble_eq_true rfl) ?_
  have C := zCT_p C (zBud_r hB); have hQ := hp _ hQ; have hB := zBud_p hB
  refine z_bipush (v := (-71 : Int32)) C dL_refuses_128 (by decide) ?_
  refine z_icmp_ne (tgt := 273) C dL_refuses_130 (by decide) (fun c => absurd (by decide) c) (fun _ => ?_)
  refine z_aload_n C dL_refuses_133 rfl 11 rfl ?_
  refine z_bipush (v := (15 : Int32)) C dL_refuses_134 (by decide) ?_
  refine z_iload C dL_refuses_136 5 rfl ?_
  refine z_iconst (v := (1 : Int32)) C dL_refuses_138 (by decide) ?_
  refine z_icmp_ne (tgt := 147) C dL_refuses_139 (by decide) (fun _ => ?_) (fun c => absurd c (by decide))
  refine z_iload C dL_refuses_147 4 rfl ?_
  refine z_iload C dL_refuses_149 3 rfl ?_
  refine z_iload C dL_refuses_151 3 rfl ?_
  refine z_lS C 5 [.ref (ad 0), .int (15 : Int32), .int (-2147483648 : Int32), .int (-2147483648 : Int32), .int (-2147483648 : Int32)] [] (zBud_r hB) (cL_define_x2 (zC_I C) (zC_st C) (n := 130) (R_def2 (by decide) (by decide))) gL_refuses_L_define (by decide +kernel) rfl dL_refuses_153 rfl ⟨Nat.le_of_ble_eq_true rfl, Nat.le_of_ble_eq_true rfl⟩ rfl (Nat.le_of_ble_eq_true rfl) ?_
  have C := zCT_p C (zBud_r hB); have hQ := hp _ hQ; have hB := zBud_p hB
  refine z_bipush (v := (-72 : Int32)) C dL_refuses_156 (by decide) ?_
  refine z_icmp_ne (tgt := 273) C dL_refuses_158 (by decide) (fun c => absurd (by decide) c) (fun _ => ?_)
  refine z_aload_n C dL_refuses_161 rfl 11 rfl ?_
  refine z_bipush (v := (15 : Int32)) C dL_refuses_162 (by decide) ?_
  refine z_iconst (v := (1 : Int32)) C dL_refuses_164 (by decide) ?_
  refine z_iload C dL_refuses_165 3 rfl ?_
  refine z_iconst (v := (0 : Int32)) C dL_refuses_167 (by decide) ?_
  refine z_lS C 5 [.ref (ad 0), .int (15 : Int32), .int (1 : Int32), .int (-2147483648 : Int32), .int (0 : Int32)] [] (zBud_r hB) (cL_define_x1 (zC_I C) (zC_st C) (n := 130) (R_def3 (by decide) (by decide) (by decide) (by decide))) gL_refuses_L_define (by decide +kernel) rfl dL_refuses_168 rfl ⟨Nat.le_of_ble_eq_true rfl, Nat.le_of_ble_eq_true rfl⟩ rfl (Nat.le_of_ble_eq_true rfl) ?_
  have C := zCT_p C (zBud_r hB); have hQ := hp _ hQ; have hB := zBud_p hB
  refine z_bipush (v := (-71 : Int32)) C dL_refuses_171 (by decide) ?_
  refine z_icmp_ne (tgt := 273) C dL_refuses_173 (by decide) (fun c => absurd (by decide) c) (fun _ => ?_)
  refine z_aload_n C dL_refuses_176 rfl 11 rfl ?_
  refine z_bipush (v := (15 : Int32)) C dL_refuses_177 (by decide) ?_
  refine z_iconst (v := (1 : Int32)) C dL_refuses_179 (by decide) ?_
  refine z_iconst (v := (0 : Int32)) C dL_refuses_180 (by decide) ?_
  refine z_iload C dL_refuses_181 3 rfl ?_
  refine z_lS C 5 [.ref (ad 0), .int (15 : Int32), .int (1 : Int32), .int (0 : Int32), .int (-2147483648 : Int32)] [] (zBud_r hB) (cL_define_x1 (zC_I C) (zC_st C) (n := 130) (R_def4 (by decide) (by decide) (by decide) (by decide) rfl (by decide))) gL_refuses_L_define (by decide +kernel) rfl dL_refuses_183 rfl ⟨Nat.le_of_ble_eq_true rfl, Nat.le_of_ble_eq_true rfl⟩ rfl (Nat.le_of_ble_eq_true rfl) ?_
  have C := zCT_p C (zBud_r hB); have hQ := hp _ hQ; have hB := zBud_p hB
  refine z_bipush (v := (-71 : Int32)) C dL_refuses_186 (by decide) ?_
  refine z_icmp_ne (tgt := 273) C dL_refuses_188 (by decide) (fun c => absurd (by decide) c) (fun _ => ?_)
  refine z_aload_n C dL_refuses_191 rfl 11 rfl ?_
  refine z_bipush (v := (15 : Int32)) C dL_refuses_192 (by decide) ?_
  refine z_iconst (v := (3 : Int32)) C dL_refuses_194 (by decide) ?_
  refine z_iload C dL_refuses_195 3 rfl ?_
  refine z_iconst (v := (-1 : Int32)) C dL_refuses_197 (by decide) ?_
  refine z_lS C 5 [.ref (ad 0), .int (15 : Int32), .int (3 : Int32), .int (-2147483648 : Int32), .int (-1 : Int32)] [] (zBud_r hB) (cL_define_x1 (zC_I C) (zC_st C) (n := 130) (R_def3 (by decide) (by decide) (by decide) (by decide))) gL_refuses_L_define (by decide +kernel) rfl dL_refuses_198 rfl ⟨Nat.le_of_ble_eq_true rfl, Nat.le_of_ble_eq_true rfl⟩ rfl (Nat.le_of_ble_eq_true rfl) ?_
  have C := zCT_p C (zBud_r hB); have hQ := hp _ hQ; have hB := zBud_p hB
  refine z_bipush (v := (-71 : Int32)) C dL_refuses_201 (by decide) ?_
  refine z_icmp_ne (tgt := 273) C dL_refuses_203 (by decide) (fun c => absurd (by decide) c) (fun _ => ?_)
  refine z_aload_n C dL_refuses_206 rfl 11 rfl ?_
  refine z_bipush (v := (15 : Int32)) C dL_refuses_207 (by decide) ?_
  refine z_iconst (v := (3 : Int32)) C dL_refuses_209 (by decide) ?_
  refine z_iconst (v := (0 : Int32)) C dL_refuses_210 (by decide) ?_
  refine z_iload C dL_refuses_211 0 rfl ?_
  refine z_lS C 5 [.ref (ad 0), .int (15 : Int32), .int (3 : Int32), .int (0 : Int32), .int (-2147483648 : Int32)] [] (zBud_r hB) (cL_define_x2 (zC_I C) (zC_st C) (n := 130) (R_def5 (by decide) (by decide) (by decide))) gL_refuses_L_define (by decide +kernel) rfl dL_refuses_213 rfl ⟨Nat.le_of_ble_eq_true rfl, Nat.le_of_ble_eq_true rfl⟩ rfl (Nat.le_of_ble_eq_true rfl) ?_
  have C := zCT_p C (zBud_r hB); have hQ := hp _ hQ; have hB := zBud_p hB
  refine z_bipush (v := (-72 : Int32)) C dL_refuses_216 (by decide) ?_
  refine z_icmp_ne (tgt := 273) C dL_refuses_218 (by decide) (fun c => absurd (by decide) c) (fun _ => ?_)
  exact kk _ C hQ hB
set_option maxRecDepth 100000 in
set_option maxHeartbeats 4000000 in
theorem wL_refuses_15 {h : zH} {ad : Nat → Nat} {G : zG} (C : zCT [] h ad zLX 12 G cL_refuses RL wsL_refuses 10 210) {QQ : zG → Prop} (hp : ∀ G, QQ G → QQ (zGp G)) (hQ : QQ G) {f : Nat} (hB : zBud G (f + 7)) {s1 : zS} {y c v : Int32} (hRI : zRI s1 y) (hc : ¬ (y ≤ y - 1 ∧ y - 1 ≤ y + 20) ∧ ¬ (y ≤ y + 21 ∧ y + 21 ≤ y + 20) ∧ ¬ (y ≤ 2147483647 ∧ (2147483647 : Int32) ≤ y + 20) ∧ ¬ (y ≤ -2147483648 ∧ (-2147483648 : Int32) ≤ y + 20)) (kk : ∀ G, zCT [] h ad zLX 12 G cL_refuses RL wsL_refuses 10 210 → QQ G → zBud G f → zV h ad zLX 12 G s1 334 [(11, .int (1 : Int32)), (10, .int (-2147483648 : Int32)), (9, .int (-2147483648 : Int32)), (8, .int (-2147483648 : Int32)), (7, .int (-2147483648 : Int32)), (6, .int (-2147483648 : Int32)), (5, .int (3 : Int32)), (4, .int (2147483647 : Int32)), (3, .int v), (2, .int c), (1, .int y), (0, .ref (ad 0))] []) : zV h ad zLX 12 G s1 221 [(10, .int (-2147483648 : Int32)), (9, .int (-2147483648 : Int32)), (8, .int (-2147483648 : Int32)), (7, .int (-2147483648 : Int32)), (6, .int (-2147483648 : Int32)), (5, .int (3 : Int32)), (11, .int (1 : Int32)), (4, .int (2147483647 : Int32)), (3, .int v), (2, .int c), (1, .int y), (0, .ref (ad 0))] [] := by
  refine z_aload_n C dL_refuses_221 rfl 11 rfl ?_
  refine z_bipush (v := (15 : Int32)) C dL_refuses_222 (by decide) ?_
  refine z_bipush (v := (6 : Int32)) C dL_refuses_224 (by decide) ?_
  refine z_iload C dL_refuses_226 3 rfl ?_
  refine z_iconst (v := (0 : Int32)) C dL_refuses_228 (by decide) ?_
  refine z_lS C 5 [.ref (ad 0), .int (15 : Int32), .int (6 : Int32), .int (-2147483648 : Int32), .int (0 : Int32)] [] (zBud_r hB) (cL_define_x1 (zC_I C) (zC_st C) (n := 130) (R_def3 (by decide) (by decide) (by decide) (by decide))) gL_refuses_L_define (by decide +kernel) rfl dL_refuses_229 rfl ⟨Nat.le_of_ble_eq_true rfl, Nat.le_of_ble_eq_true rfl⟩ rfl (Nat.le_of_ble_eq_true rfl) ?_
  have C := zCT_p C (zBud_r hB); have hQ := hp _ hQ; have hB := zBud_p hB
  refine z_bipush (v := (-71 : Int32)) C dL_refuses_232 (by decide) ?_
  refine z_icmp_ne (tgt := 273) C dL_refuses_234 (by decide) (fun c => absurd (by decide) c) (fun _ => ?_)
  refine z_aload_n C dL_refuses_237 rfl 11 rfl ?_
  refine z_bipush (v := (15 : Int32)) C dL_refuses_238 (by decide) ?_
  refine z_bipush (v := (8 : Int32)) C dL_refuses_240 (by decide) ?_
  refine z_iconst (v := (0 : Int32)) C dL_refuses_242 (by decide) ?_
  refine z_iload C dL_refuses_243 3 rfl ?_
  refine z_lS C 5 [.ref (ad 0), .int (15 : Int32), .int (8 : Int32), .int (0 : Int32), .int (-2147483648 : Int32)] [] (zBud_r hB) (cL_define_x1 (zC_I C) (zC_st C) (n := 130) (R_def4 (by decide) (by decide) (by decide) (by decide) rfl (by decide))) gL_refuses_L_define (by decide +kernel) rfl dL_refuses_245 rfl ⟨Nat.le_of_ble_eq_true rfl, Nat.le_of_ble_eq_true rfl⟩ rfl (Nat.le_of_ble_eq_true rfl) ?_
  have C := zCT_p C (zBud_r hB); have hQ := hp _ hQ; have hB := zBud_p hB
  refine z_bipush (v := (-71 : Int32)) C dL_refuses_248 (by decide) ?_
  refine z_icmp_ne (tgt := 273) C dL_refuses_250 (by decide) (fun c => absurd (by decide) c) (fun _ => ?_)
  refine z_aload_n C dL_refuses_253 rfl 11 rfl ?_
  refine z_bipush (v := (15 : Int32)) C dL_refuses_254 (by decide) ?_
  refine z_bipush (v := (7 : Int32)) C dL_refuses_256 (by decide) ?_
  refine z_iload C dL_refuses_258 3 rfl ?_
  refine z_iconst (v := (0 : Int32)) C dL_refuses_260 (by decide) ?_
  refine z_lS C 5 [.ref (ad 0), .int (15 : Int32), .int (7 : Int32), .int (-2147483648 : Int32), .int (0 : Int32)] [] (zBud_r hB) (cL_define_x1 (zC_I C) (zC_st C) (n := 130) (R_def3 (by decide) (by decide) (by decide) (by decide))) gL_refuses_L_define (by decide +kernel) rfl dL_refuses_261 rfl ⟨Nat.le_of_ble_eq_true rfl, Nat.le_of_ble_eq_true rfl⟩ rfl (Nat.le_of_ble_eq_true rfl) ?_
  have C := zCT_p C (zBud_r hB); have hQ := hp _ hQ; have hB := zBud_p hB
  refine z_bipush (v := (-71 : Int32)) C dL_refuses_264 (by decide) ?_
  refine z_icmp_ne (tgt := 273) C dL_refuses_266 (by decide) (fun c => absurd (by decide) c) (fun _ => ?_)
  refine z_iconst (v := (1 : Int32)) C dL_refuses_269 (by decide) ?_
  refine z_goto (tgt := 274) C dL_refuses_270 (by decide) ?_
  refine z_istore (y := (1 : Int32)) (lv' := [(11, .int (1 : Int32)), (10, .int (-2147483648 : Int32)), (9, .int (-2147483648 : Int32)), (8, .int (-2147483648 : Int32)), (7, .int (-2147483648 : Int32)), (6, .int (-2147483648 : Int32)), (5, .int (3 : Int32)), (4, .int (2147483647 : Int32)), (3, .int v), (2, .int c), (1, .int y), (0, .ref (ad 0))]) C dL_refuses_274 (by decide) rfl rfl ?_
  refine z_iload C dL_refuses_276 0 rfl ?_
  refine z_if_eq (tgt := 498) C dL_refuses_278 (by decide) (fun c => absurd c (by decide)) (fun _ => ?_)
  refine z_aload_n C dL_refuses_281 rfl 11 rfl ?_
  refine z_iconst (v := (0 : Int32)) C dL_refuses_282 (by decide) ?_
  refine z_iload C dL_refuses_283 4 rfl ?_
  refine z_iconst (v := (-1 : Int32)) C dL_refuses_285 (by decide) ?_
  refine z_lS C 4 [.ref (ad 0), .int (0 : Int32), .int (-2147483648 : Int32), .int (-1 : Int32)] [] (zBud_r hB) (cL_act_answer_x1 (zC_I C) (zC_st C) (n := 130) (R_answer1 (by decide))) gL_refuses_L_act (by decide +kernel) rfl dL_refuses_286 rfl ⟨Nat.le_of_ble_eq_true rfl, Nat.le_of_ble_eq_true rfl⟩ rfl (Nat.le_of_ble_eq_true rfl) ?_
  have C := zCT_p C (zBud_r hB); have hQ := hp _ hQ; have hB := zBud_p hB
  refine z_bipush (v := (-71 : Int32)) C dL_refuses_289 (by decide) ?_
  refine z_icmp_ne (tgt := 498) C dL_refuses_291 (by decide) (fun c => absurd (by decide) c) (fun _ => ?_)
  refine z_aload_n C dL_refuses_294 rfl 11 rfl ?_
  refine z_iconst (v := (0 : Int32)) C dL_refuses_295 (by decide) ?_
  refine z_bipush (v := (15 : Int32)) C dL_refuses_296 (by decide) ?_
  refine z_iload C dL_refuses_298 2 rfl ?_
  refine z_lS C 4 [.ref (ad 0), .int (0 : Int32), .int (15 : Int32), .int (-2147483648 : Int32)] [] (zBud_r hB) (cL_act_answer_x2 (zC_I C) (zC_st C) (n := 130) (R_answer2 (by decide) (by decide))) gL_refuses_L_act (by decide +kernel) rfl dL_refuses_300 rfl ⟨Nat.le_of_ble_eq_true rfl, Nat.le_of_ble_eq_true rfl⟩ rfl (Nat.le_of_ble_eq_true rfl) ?_
  have C := zCT_p C (zBud_r hB); have hQ := hp _ hQ; have hB := zBud_p hB
  refine z_bipush (v := (-72 : Int32)) C dL_refuses_303 (by decide) ?_
  refine z_icmp_ne (tgt := 498) C dL_refuses_305 (by decide) (fun c => absurd (by decide) c) (fun _ => ?_)
  refine z_aload_n C dL_refuses_308 rfl 11 rfl ?_
  refine z_iconst (v := (1 : Int32)) C dL_refuses_309 (by decide) ?_
  refine z_iload C dL_refuses_310 4 rfl ?_
  refine z_iconst (v := (0 : Int32)) C dL_refuses_312 (by decide) ?_
  refine z_lS C 4 [.ref (ad 0), .int (1 : Int32), .int (-2147483648 : Int32), .int (0 : Int32)] [] (zBud_r hB) (cL_act_kindOf_x1 (zC_I C) (zC_st C) (n := 130) (R_kindOf (by decide))) gL_refuses_L_act (by decide +kernel) rfl dL_refuses_313 rfl ⟨Nat.le_of_ble_eq_true rfl, Nat.le_of_ble_eq_true rfl⟩ rfl (Nat.le_of_ble_eq_true rfl) ?_
  have C := zCT_p C (zBud_r hB); have hQ := hp _ hQ; have hB := zBud_p hB
  refine z_bipush (v := (-71 : Int32)) C dL_refuses_316 (by decide) ?_
  refine z_icmp_ne (tgt := 498) C dL_refuses_318 (by decide) (fun c => absurd (by decide) c) (fun _ => ?_)
  refine z_aload_n C dL_refuses_321 rfl 11 rfl ?_
  refine z_iconst (v := (2 : Int32)) C dL_refuses_322 (by decide) ?_
  refine z_iload C dL_refuses_323 4 rfl ?_
  refine z_iconst (v := (0 : Int32)) C dL_refuses_325 (by decide) ?_
  refine z_lS C 4 [.ref (ad 0), .int (2 : Int32), .int (-2147483648 : Int32), .int (0 : Int32)] [] (zBud_r hB) (cL_act_value_x1 (zC_I C) (zC_st C) (n := 130) (R_value (by decide))) gL_refuses_L_act (by decide +kernel) rfl dL_refuses_326 rfl ⟨Nat.le_of_ble_eq_true rfl, Nat.le_of_ble_eq_true rfl⟩ rfl (Nat.le_of_ble_eq_true rfl) ?_
  have C := zCT_p C (zBud_r hB); have hQ := hp _ hQ; have hB := zBud_p hB
  refine z_bipush (v := (-71 : Int32)) C dL_refuses_329 (by decide) ?_
  refine z_icmp_ne (tgt := 498) C dL_refuses_331 (by decide) (fun c => absurd (by decide) c) (fun _ => ?_)
  exact kk _ C hQ hB
set_option maxRecDepth 100000 in
set_option maxHeartbeats 4000000 in
theorem wL_refuses_16 {h : zH} {ad : Nat → Nat} {G : zG} (C : zCT [] h ad zLX 12 G cL_refuses RL wsL_refuses 10 210) {QQ : zG → Prop} (hp : ∀ G, QQ G → QQ (zGp G)) (hQ : QQ G) {f : Nat} (hB : zBud G (f + 7)) {s1 : zS} {y c v : Int32} (hRI : zRI s1 y) (hc : ¬ (y ≤ y - 1 ∧ y - 1 ≤ y + 20) ∧ ¬ (y ≤ y + 21 ∧ y + 21 ≤ y + 20) ∧ ¬ (y ≤ 2147483647 ∧ (2147483647 : Int32) ≤ y + 20) ∧ ¬ (y ≤ -2147483648 ∧ (-2147483648 : Int32) ≤ y + 20)) (kk : ∀ G, zCT [] h ad zLX 12 G cL_refuses RL wsL_refuses 10 210 → QQ G → zBud G f → zV h ad zLX 12 G s1 427 [(11, .int (1 : Int32)), (10, .int (-2147483648 : Int32)), (9, .int (-2147483648 : Int32)), (8, .int (-2147483648 : Int32)), (7, .int (-2147483648 : Int32)), (6, .int (-2147483648 : Int32)), (5, .int (3 : Int32)), (4, .int (2147483647 : Int32)), (3, .int v), (2, .int c), (1, .int y), (0, .ref (ad 0))] []) : zV h ad zLX 12 G s1 334 [(11, .int (1 : Int32)), (10, .int (-2147483648 : Int32)), (9, .int (-2147483648 : Int32)), (8, .int (-2147483648 : Int32)), (7, .int (-2147483648 : Int32)), (6, .int (-2147483648 : Int32)), (5, .int (3 : Int32)), (4, .int (2147483647 : Int32)), (3, .int v), (2, .int c), (1, .int y), (0, .ref (ad 0))] [] := by
  refine z_aload_n C dL_refuses_334 rfl 11 rfl ?_
  refine z_iconst (v := (3 : Int32)) C dL_refuses_335 (by decide) ?_
  refine z_iload C dL_refuses_336 4 rfl ?_
  refine z_iconst (v := (-1 : Int32)) C dL_refuses_338 (by decide) ?_
  refine z_lS C 4 [.ref (ad 0), .int (3 : Int32), .int (-2147483648 : Int32), .int (-1 : Int32)] [] (zBud_r hB) (cL_act_boundFor_x1 (zC_I C) (zC_st C) (n := 130) (R_boundFor1 (by decide))) gL_refuses_L_act (by decide +kernel) rfl dL_refuses_339 rfl ⟨Nat.le_of_ble_eq_true rfl, Nat.le_of_ble_eq_true rfl⟩ rfl (Nat.le_of_ble_eq_true rfl) ?_
  have C := zCT_p C (zBud_r hB); have hQ := hp _ hQ; have hB := zBud_p hB
  refine z_bipush (v := (-71 : Int32)) C dL_refuses_342 (by decide) ?_
  refine z_icmp_ne (tgt := 498) C dL_refuses_344 (by decide) (fun c => absurd (by decide) c) (fun _ => ?_)
  refine z_aload_n C dL_refuses_347 rfl 11 rfl ?_
  refine z_iconst (v := (3 : Int32)) C dL_refuses_348 (by decide) ?_
  refine z_bipush (v := (15 : Int32)) C dL_refuses_349 (by decide) ?_
  refine z_iload C dL_refuses_351 3 rfl ?_
  refine z_lS C 4 [.ref (ad 0), .int (3 : Int32), .int (15 : Int32), .int (-2147483648 : Int32)] [] (zBud_r hB) (cL_act_boundFor_x2 (zC_I C) (zC_st C) (n := 130) (R_boundFor2 (by decide) (by decide))) gL_refuses_L_act (by decide +kernel) rfl dL_refuses_353 rfl ⟨Nat.le_of_ble_eq_true rfl, Nat.le_of_ble_eq_true rfl⟩ rfl (Nat.le_of_ble_eq_true rfl) ?_
  have C := zCT_p C (zBud_r hB); have hQ := hp _ hQ; have hB := zBud_p hB
  refine z_bipush (v := (-72 : Int32)) C dL_refuses_356 (by decide) ?_
  refine z_icmp_ne (tgt := 498) C dL_refuses_358 (by decide) (fun c => absurd (by decide) c) (fun _ => ?_)
  refine z_aload_n C dL_refuses_361 rfl 11 rfl ?_
  refine z_iconst (v := (3 : Int32)) C dL_refuses_362 (by decide) ?_
  refine z_bipush (v := (15 : Int32)) C dL_refuses_363 (by decide) ?_
  refine z_iconst (v := (0 : Int32)) C dL_refuses_365 (by decide) ?_
  refine z_lS C 4 [.ref (ad 0), .int (3 : Int32), .int (15 : Int32), .int (0 : Int32)] [] (zBud_r hB) (cL_act_boundFor_x3 (zC_I C) (zC_st C) (n := 130) (R_boundFor3 hRI)) gL_refuses_L_act (by decide +kernel) rfl dL_refuses_366 rfl ⟨Nat.le_of_ble_eq_true rfl, Nat.le_of_ble_eq_true rfl⟩ rfl (Nat.le_of_ble_eq_true rfl) ?_
  have C := zCT_p C (zBud_r hB); have hQ := hp _ hQ; have hB := zBud_p hB
  refine z_bipush (v := (-73 : Int32)) C dL_refuses_369 (by decide) ?_
  refine z_icmp_ne (tgt := 498) C dL_refuses_371 (by decide) (fun c => absurd (by decide) c) (fun _ => ?_)
  refine z_aload_n C dL_refuses_374 rfl 11 rfl ?_
  refine z_iconst (v := (4 : Int32)) C dL_refuses_375 (by decide) ?_
  refine z_iload C dL_refuses_376 4 rfl ?_
  refine z_iconst (v := (0 : Int32)) C dL_refuses_378 (by decide) ?_
  refine z_lS C 4 [.ref (ad 0), .int (4 : Int32), .int (-2147483648 : Int32), .int (0 : Int32)] [] (zBud_r hB) (cL_act_dependsOn_x1 (zC_I C) (zC_st C) (n := 130) (R_dependsOn1 (by decide))) gL_refuses_L_act (by decide +kernel) rfl dL_refuses_379 rfl ⟨Nat.le_of_ble_eq_true rfl, Nat.le_of_ble_eq_true rfl⟩ rfl (Nat.le_of_ble_eq_true rfl) ?_
  have C := zCT_p C (zBud_r hB); have hQ := hp _ hQ; have hB := zBud_p hB
  refine z_bipush (v := (-71 : Int32)) C dL_refuses_382 (by decide) ?_
  refine z_icmp_ne (tgt := 498) C dL_refuses_384 (by decide) (fun c => absurd (by decide) c) (fun _ => ?_)
  refine z_aload_n C dL_refuses_387 rfl 11 rfl ?_
  refine z_iconst (v := (4 : Int32)) C dL_refuses_388 (by decide) ?_
  refine z_iconst (v := (0 : Int32)) C dL_refuses_389 (by decide) ?_
  refine z_iload C dL_refuses_390 4 rfl ?_
  refine z_lS C 4 [.ref (ad 0), .int (4 : Int32), .int (0 : Int32), .int (-2147483648 : Int32)] [] (zBud_r hB) (cL_act_dependsOn_x1 (zC_I C) (zC_st C) (n := 130) (R_dependsOn2 (by decide) (by decide))) gL_refuses_L_act (by decide +kernel) rfl dL_refuses_392 rfl ⟨Nat.le_of_ble_eq_true rfl, Nat.le_of_ble_eq_true rfl⟩ rfl (Nat.le_of_ble_eq_true rfl) ?_
  have C := zCT_p C (zBud_r hB); have hQ := hp _ hQ; have hB := zBud_p hB
  refine z_bipush (v := (-71 : Int32)) C dL_refuses_395 (by decide) ?_
  refine z_icmp_ne (tgt := 498) C dL_refuses_397 (by decide) (fun c => absurd (by decide) c) (fun _ => ?_)
  refine z_aload_n C dL_refuses_400 rfl 11 rfl ?_
  refine z_iconst (v := (5 : Int32)) C dL_refuses_401 (by decide) ?_
  refine z_iload C dL_refuses_402 4 rfl ?_
  refine z_iconst (v := (0 : Int32)) C dL_refuses_404 (by decide) ?_
  refine z_lS C 4 [.ref (ad 0), .int (5 : Int32), .int (-2147483648 : Int32), .int (0 : Int32)] [] (zBud_r hB) (cL_act_influence_x1 (zC_I C) (zC_st C) (n := 130) (R_influence (by decide))) gL_refuses_L_act (by decide +kernel) rfl dL_refuses_405 rfl ⟨Nat.le_of_ble_eq_true rfl, Nat.le_of_ble_eq_true rfl⟩ rfl (Nat.le_of_ble_eq_true rfl) ?_
  have C := zCT_p C (zBud_r hB); have hQ := hp _ hQ; have hB := zBud_p hB
  refine z_bipush (v := (-71 : Int32)) C dL_refuses_408 (by decide) ?_
  refine z_icmp_ne (tgt := 498) C dL_refuses_410 (by decide) (fun c => absurd (by decide) c) (fun _ => ?_)
  refine z_aload_n C dL_refuses_413 rfl 11 rfl ?_
  refine z_bipush (v := (6 : Int32)) C dL_refuses_414 (by decide) ?_
  refine z_iload C dL_refuses_416 4 rfl ?_
  refine z_iconst (v := (0 : Int32)) C dL_refuses_418 (by decide) ?_
  refine z_lS C 4 [.ref (ad 0), .int (6 : Int32), .int (-2147483648 : Int32), .int (0 : Int32)] [] (zBud_r hB) (cL_act_why_x1 (zC_I C) (zC_st C) (n := 130) (R_why1 (by decide))) gL_refuses_L_act (by decide +kernel) rfl dL_refuses_419 rfl ⟨Nat.le_of_ble_eq_true rfl, Nat.le_of_ble_eq_true rfl⟩ rfl (Nat.le_of_ble_eq_true rfl) ?_
  have C := zCT_p C (zBud_r hB); have hQ := hp _ hQ; have hB := zBud_p hB
  refine z_bipush (v := (-71 : Int32)) C dL_refuses_422 (by decide) ?_
  refine z_icmp_ne (tgt := 498) C dL_refuses_424 (by decide) (fun c => absurd (by decide) c) (fun _ => ?_)
  exact kk _ C hQ hB
set_option maxRecDepth 100000 in
set_option maxHeartbeats 4000000 in
theorem wL_refuses_17 {h : zH} {ad : Nat → Nat} {G : zG} (C : zCT [] h ad zLX 12 G cL_refuses RL wsL_refuses 10 210) {QQ : zG → Prop} (hp : ∀ G, QQ G → QQ (zGp G)) (hQ : QQ G) {f : Nat} (hB : zBud G (f + 7)) {s1 : zS} {y c v : Int32} (hRI : zRI s1 y) (hc : ¬ (y ≤ y - 1 ∧ y - 1 ≤ y + 20) ∧ ¬ (y ≤ y + 21 ∧ y + 21 ≤ y + 20) ∧ ¬ (y ≤ 2147483647 ∧ (2147483647 : Int32) ≤ y + 20) ∧ ¬ (y ≤ -2147483648 ∧ (-2147483648 : Int32) ≤ y + 20)) (kk : ∀ G, zCT [] h ad zLX 12 G cL_refuses RL wsL_refuses 10 210 → QQ G → zBud G f → zV h ad zLX 12 G s1 592 [(11, .int (1 : Int32)), (10, .int (-2147483648 : Int32)), (9, .int (-2147483648 : Int32)), (8, .int (-2147483648 : Int32)), (7, .int (-2147483648 : Int32)), (6, .int (-2147483648 : Int32)), (5, .int (3 : Int32)), (4, .int (2147483647 : Int32)), (3, .int v), (2, .int c), (1, .int y), (0, .ref (ad 0))] []) : zV h ad zLX 12 G s1 427 [(11, .int (1 : Int32)), (10, .int (-2147483648 : Int32)), (9, .int (-2147483648 : Int32)), (8, .int (-2147483648 : Int32)), (7, .int (-2147483648 : Int32)), (6, .int (-2147483648 : Int32)), (5, .int (3 : Int32)), (4, .int (2147483647 : Int32)), (3, .int v), (2, .int c), (1, .int y), (0, .ref (ad 0))] [] := by
  refine z_aload_n C dL_refuses_427 rfl 11 rfl ?_
  refine z_bipush (v := (6 : Int32)) C dL_refuses_428 (by decide) ?_
  refine z_iconst (v := (0 : Int32)) C dL_refuses_430 (by decide) ?_
  refine z_iload C dL_refuses_431 6 rfl ?_
  refine z_iconst (v := (2 : Int32)) C dL_refuses_433 (by decide) ?_
  refine z_icmp_ge (tgt := 441) C dL_refuses_434 (by decide) (fun _ => ?_) (fun c => absurd (by decide) c)
  refine z_iload C dL_refuses_441 7 rfl ?_
  refine z_ineg C dL_refuses_443 ?_
  refine z_top (y := (-2147483647 : Int32)) (by decide) ?_
  refine z_lS C 4 [.ref (ad 0), .int (6 : Int32), .int (0 : Int32), .int (-2147483647 : Int32)] [] (zBud_r hB) (cL_act_why_x1 (zC_I C) (zC_st C) (n := 130) (R_why2 (by decide) (by decide))) gL_refuses_L_act (by decide +kernel) rfl dL_refuses_444 rfl ⟨Nat.le_of_ble_eq_true rfl, Nat.le_of_ble_eq_true rfl⟩ rfl (Nat.le_of_ble_eq_true rfl) ?_
  have C := zCT_p C (zBud_r hB); have hQ := hp _ hQ; have hB := zBud_p hB
  refine z_bipush (v := (-71 : Int32)) C dL_refuses_447 (by decide) ?_
  refine z_icmp_ne (tgt := 498) C dL_refuses_449 (by decide) (fun c => absurd (by decide) c) (fun _ => ?_)
  refine z_aload_n C dL_refuses_452 rfl 11 rfl ?_
  refine z_bipush (v := (7 : Int32)) C dL_refuses_453 (by decide) ?_
  refine z_iload C dL_refuses_455 2 rfl ?_
  refine z_iconst (v := (0 : Int32)) C dL_refuses_457 (by decide) ?_
  refine z_lS C 4 [.ref (ad 0), .int (7 : Int32), .int (-2147483648 : Int32), .int (0 : Int32)] [] (zBud_r hB) (cL_act_bracket_x2 (zC_I C) (zC_st C) (n := 130) (R_bracket1 (by decide))) gL_refuses_L_act (by decide +kernel) rfl dL_refuses_458 rfl ⟨Nat.le_of_ble_eq_true rfl, Nat.le_of_ble_eq_true rfl⟩ rfl (Nat.le_of_ble_eq_true rfl) ?_
  have C := zCT_p C (zBud_r hB); have hQ := hp _ hQ; have hB := zBud_p hB
  refine z_bipush (v := (-72 : Int32)) C dL_refuses_461 (by decide) ?_
  refine z_icmp_ne (tgt := 498) C dL_refuses_463 (by decide) (fun c => absurd (by decide) c) (fun _ => ?_)
  refine z_aload_n C dL_refuses_466 rfl 11 rfl ?_
  refine z_bipush (v := (7 : Int32)) C dL_refuses_467 (by decide) ?_
  refine z_iconst (v := (0 : Int32)) C dL_refuses_469 (by decide) ?_
  refine z_iload C dL_refuses_470 1 rfl ?_
  refine z_lS C 4 [.ref (ad 0), .int (7 : Int32), .int (0 : Int32), .int (-2147483648 : Int32)] [] (zBud_r hB) (cL_act_bracket_x2 (zC_I C) (zC_st C) (n := 130) (R_bracket2 (by decide) (by decide))) gL_refuses_L_act (by decide +kernel) rfl dL_refuses_472 rfl ⟨Nat.le_of_ble_eq_true rfl, Nat.le_of_ble_eq_true rfl⟩ rfl (Nat.le_of_ble_eq_true rfl) ?_
  have C := zCT_p C (zBud_r hB); have hQ := hp _ hQ; have hB := zBud_p hB
  refine z_bipush (v := (-72 : Int32)) C dL_refuses_475 (by decide) ?_
  refine z_icmp_ne (tgt := 498) C dL_refuses_477 (by decide) (fun c => absurd (by decide) c) (fun _ => ?_)
  refine z_aload_n C dL_refuses_480 rfl 11 rfl ?_
  refine z_bipush (v := (8 : Int32)) C dL_refuses_481 (by decide) ?_
  refine z_iload C dL_refuses_483 3 rfl ?_
  refine z_iconst (v := (0 : Int32)) C dL_refuses_485 (by decide) ?_
  refine z_lS C 4 [.ref (ad 0), .int (8 : Int32), .int (-2147483648 : Int32), .int (0 : Int32)] [] (zBud_r hB) (cL_act_taxOn_x2 (zC_I C) (zC_st C) (n := 130) (R_taxOn (by decide))) gL_refuses_L_act (by decide +kernel) rfl dL_refuses_486 rfl ⟨Nat.le_of_ble_eq_true rfl, Nat.le_of_ble_eq_true rfl⟩ rfl (Nat.le_of_ble_eq_true rfl) ?_
  have C := zCT_p C (zBud_r hB); have hQ := hp _ hQ; have hB := zBud_p hB
  refine z_bipush (v := (-72 : Int32)) C dL_refuses_489 (by decide) ?_
  refine z_icmp_ne (tgt := 498) C dL_refuses_491 (by decide) (fun c => absurd (by decide) c) (fun _ => ?_)
  refine z_iconst (v := (1 : Int32)) C dL_refuses_494 (by decide) ?_
  refine z_goto (tgt := 499) C dL_refuses_495 (by decide) ?_
  refine z_istore (y := (1 : Int32)) (lv' := [(11, .int (1 : Int32)), (10, .int (-2147483648 : Int32)), (9, .int (-2147483648 : Int32)), (8, .int (-2147483648 : Int32)), (7, .int (-2147483648 : Int32)), (6, .int (-2147483648 : Int32)), (5, .int (3 : Int32)), (4, .int (2147483647 : Int32)), (3, .int v), (2, .int c), (1, .int y), (0, .ref (ad 0))]) C dL_refuses_499 (by decide) rfl rfl ?_
  refine z_iload C dL_refuses_501 0 rfl ?_
  refine z_if_eq (tgt := 699) C dL_refuses_503 (by decide) (fun c => absurd c (by decide)) (fun _ => ?_)
  refine z_aload_n C dL_refuses_506 rfl 11 rfl ?_
  refine z_bipush (v := (9 : Int32)) C dL_refuses_507 (by decide) ?_
  refine z_iload C dL_refuses_509 6 rfl ?_
  refine z_if_ne (tgt := 518) C dL_refuses_511 (by decide) (fun _ => ?_) (fun c => absurd c (by decide))
  refine z_iload C dL_refuses_518 2 rfl ?_
  refine z_iload_n C dL_refuses_520 rfl 10 rfl ?_
  refine z_lS C 4 [.ref (ad 0), .int (9 : Int32), .int (-2147483648 : Int32), .int y] [] (zBud_r hB) (cL_act_carry_x2 (zC_I C) (zC_st C) (n := 130) (R_carry1 (by decide))) gL_refuses_L_act (by decide +kernel) rfl dL_refuses_521 rfl ⟨Nat.le_of_ble_eq_true rfl, Nat.le_of_ble_eq_true rfl⟩ rfl (Nat.le_of_ble_eq_true rfl) ?_
  have C := zCT_p C (zBud_r hB); have hQ := hp _ hQ; have hB := zBud_p hB
  refine z_bipush (v := (-72 : Int32)) C dL_refuses_524 (by decide) ?_
  refine z_icmp_ne (tgt := 699) C dL_refuses_526 (by decide) (fun c => absurd (by decide) c) (fun _ => ?_)
  refine z_aload_n C dL_refuses_529 rfl 11 rfl ?_
  refine z_bipush (v := (9 : Int32)) C dL_refuses_530 (by decide) ?_
  refine z_iconst (v := (5 : Int32)) C dL_refuses_532 (by decide) ?_
  refine z_iload C dL_refuses_533 6 rfl ?_
  refine z_if_ne (tgt := 544) C dL_refuses_535 (by decide) (fun _ => ?_) (fun c => absurd c (by decide))
  refine z_iload C dL_refuses_544 6 rfl ?_
  refine z_iconst (v := (1 : Int32)) C dL_refuses_546 (by decide) ?_
  refine z_icmp_ne (tgt := 557) C dL_refuses_547 (by decide) (fun _ => ?_) (fun c => absurd c (by decide))
  refine z_iload C dL_refuses_557 5 rfl ?_
  refine z_lS C 4 [.ref (ad 0), .int (9 : Int32), .int (5 : Int32), .int (-2147483648 : Int32)] [] (zBud_r hB) (cL_act_carry_x2 (zC_I C) (zC_st C) (n := 130) (R_carry2 (by decide) (by rw [hRI.2.1]; exact hc.2.2.2))) gL_refuses_L_act (by decide +kernel) rfl dL_refuses_559 rfl ⟨Nat.le_of_ble_eq_true rfl, Nat.le_of_ble_eq_true rfl⟩ rfl (Nat.le_of_ble_eq_true rfl) ?_
  have C := zCT_p C (zBud_r hB); have hQ := hp _ hQ; have hB := zBud_p hB
  refine z_bipush (v := (-72 : Int32)) C dL_refuses_562 (by decide) ?_
  refine z_icmp_ne (tgt := 699) C dL_refuses_564 (by decide) (fun c => absurd (by decide) c) (fun _ => ?_)
  refine z_aload_n C dL_refuses_567 rfl 11 rfl ?_
  refine z_bipush (v := (10 : Int32)) C dL_refuses_568 (by decide) ?_
  refine z_iload C dL_refuses_570 6 rfl ?_
  refine z_iconst (v := (1 : Int32)) C dL_refuses_572 (by decide) ?_
  refine z_icmp_ne (tgt := 581) C dL_refuses_573 (by decide) (fun _ => ?_) (fun c => absurd c (by decide))
  refine z_iload C dL_refuses_581 5 rfl ?_
  refine z_iconst (v := (0 : Int32)) C dL_refuses_583 (by decide) ?_
  refine z_lS C 4 [.ref (ad 0), .int (10 : Int32), .int (-2147483648 : Int32), .int (0 : Int32)] [] (zBud_r hB) (cL_act_carriedAt_x1 (zC_I C) (zC_st C) (n := 130) (R_carriedAt1 (by decide))) gL_refuses_L_act (by decide +kernel) rfl dL_refuses_584 rfl ⟨Nat.le_of_ble_eq_true rfl, Nat.le_of_ble_eq_true rfl⟩ rfl (Nat.le_of_ble_eq_true rfl) ?_
  have C := zCT_p C (zBud_r hB); have hQ := hp _ hQ; have hB := zBud_p hB
  refine z_bipush (v := (-71 : Int32)) C dL_refuses_587 (by decide) ?_
  refine z_icmp_ne (tgt := 699) C dL_refuses_589 (by decide) (fun c => absurd (by decide) c) (fun _ => ?_)
  exact kk _ C hQ hB
set_option maxRecDepth 100000 in
set_option maxHeartbeats 4000000 in
theorem wL_refuses_18 {h : zH} {ad : Nat → Nat} {G : zG} (C : zCT [] h ad zLX 12 G cL_refuses RL wsL_refuses 10 210) {QQ : zG → Prop} (hp : ∀ G, QQ G → QQ (zGp G)) (hQ : QQ G) {f : Nat} (hB : zBud G (f + 6)) {s1 : zS} {y c v : Int32} (hRI : zRI s1 y) (hc : ¬ (y ≤ y - 1 ∧ y - 1 ≤ y + 20) ∧ ¬ (y ≤ y + 21 ∧ y + 21 ≤ y + 20) ∧ ¬ (y ≤ 2147483647 ∧ (2147483647 : Int32) ≤ y + 20) ∧ ¬ (y ≤ -2147483648 ∧ (-2147483648 : Int32) ≤ y + 20)) (kk : ∀ G, zCT [] h ad zLX 12 G cL_refuses RL wsL_refuses 10 210 → QQ G → zBud G f → zV h ad zLX 12 G s1 716 [(5, .int (4 : Int32)), (11, .int (1 : Int32)), (10, .int (-2147483648 : Int32)), (9, .int (-2147483648 : Int32)), (8, .int (-2147483648 : Int32)), (7, .int (-2147483648 : Int32)), (6, .int (-2147483648 : Int32)), (4, .int (2147483647 : Int32)), (3, .int v), (2, .int c), (1, .int y), (0, .ref (ad 0))] [.ref (ad 0)]) : zV h ad zLX 12 G s1 592 [(11, .int (1 : Int32)), (10, .int (-2147483648 : Int32)), (9, .int (-2147483648 : Int32)), (8, .int (-2147483648 : Int32)), (7, .int (-2147483648 : Int32)), (6, .int (-2147483648 : Int32)), (5, .int (3 : Int32)), (4, .int (2147483647 : Int32)), (3, .int v), (2, .int c), (1, .int y), (0, .ref (ad 0))] [] := by
  refine z_aload_n C dL_refuses_592 rfl 11 rfl ?_
  refine z_bipush (v := (11 : Int32)) C dL_refuses_593 (by decide) ?_
  refine z_iload C dL_refuses_595 6 rfl ?_
  refine z_if_ne (tgt := 604) C dL_refuses_597 (by decide) (fun _ => ?_) (fun c => absurd c (by decide))
  refine z_iload C dL_refuses_604 2 rfl ?_
  refine z_iconst (v := (5 : Int32)) C dL_refuses_606 (by decide) ?_
  refine z_lS C 4 [.ref (ad 0), .int (11 : Int32), .int (-2147483648 : Int32), .int (5 : Int32)] [] (zBud_r hB) (cL_act_addCredit_x2 (zC_I C) (zC_st C) (n := 130) (R_addCredit1 (by decide))) gL_refuses_L_act (by decide +kernel) rfl dL_refuses_607 rfl ⟨Nat.le_of_ble_eq_true rfl, Nat.le_of_ble_eq_true rfl⟩ rfl (Nat.le_of_ble_eq_true rfl) ?_
  have C := zCT_p C (zBud_r hB); have hQ := hp _ hQ; have hB := zBud_p hB
  refine z_bipush (v := (-72 : Int32)) C dL_refuses_610 (by decide) ?_
  refine z_icmp_ne (tgt := 699) C dL_refuses_612 (by decide) (fun c => absurd (by decide) c) (fun _ => ?_)
  refine z_aload_n C dL_refuses_615 rfl 11 rfl ?_
  refine z_bipush (v := (11 : Int32)) C dL_refuses_616 (by decide) ?_
  refine z_iconst (v := (5 : Int32)) C dL_refuses_618 (by decide) ?_
  refine z_iload C dL_refuses_619 1 rfl ?_
  refine z_lS C 4 [.ref (ad 0), .int (11 : Int32), .int (5 : Int32), .int (-2147483648 : Int32)] [] (zBud_r hB) (cL_act_addCredit_x2 (zC_I C) (zC_st C) (n := 130) (R_addCredit2 (by decide) (by decide))) gL_refuses_L_act (by decide +kernel) rfl dL_refuses_621 rfl ⟨Nat.le_of_ble_eq_true rfl, Nat.le_of_ble_eq_true rfl⟩ rfl (Nat.le_of_ble_eq_true rfl) ?_
  have C := zCT_p C (zBud_r hB); have hQ := hp _ hQ; have hB := zBud_p hB
  refine z_bipush (v := (-72 : Int32)) C dL_refuses_624 (by decide) ?_
  refine z_icmp_ne (tgt := 699) C dL_refuses_626 (by decide) (fun c => absurd (by decide) c) (fun _ => ?_)
  refine z_aload_n C dL_refuses_629 rfl 11 rfl ?_
  refine z_bipush (v := (13 : Int32)) C dL_refuses_630 (by decide) ?_
  refine z_iload C dL_refuses_632 4 rfl ?_
  refine z_iconst (v := (0 : Int32)) C dL_refuses_634 (by decide) ?_
  refine z_lS C 4 [.ref (ad 0), .int (13 : Int32), .int (-2147483648 : Int32), .int (0 : Int32)] [] (zBud_r hB) (cL_act_creditAt_x1 (zC_I C) (zC_st C) (n := 130) (R_creditAt1 (by decide))) gL_refuses_L_act (by decide +kernel) rfl dL_refuses_635 rfl ⟨Nat.le_of_ble_eq_true rfl, Nat.le_of_ble_eq_true rfl⟩ rfl (Nat.le_of_ble_eq_true rfl) ?_
  have C := zCT_p C (zBud_r hB); have hQ := hp _ hQ; have hB := zBud_p hB
  refine z_bipush (v := (-71 : Int32)) C dL_refuses_638 (by decide) ?_
  refine z_icmp_ne (tgt := 699) C dL_refuses_640 (by decide) (fun c => absurd (by decide) c) (fun _ => ?_)
  refine z_aload_n C dL_refuses_643 rfl 11 rfl ?_
  refine z_bipush (v := (13 : Int32)) C dL_refuses_644 (by decide) ?_
  refine z_iconst (v := (0 : Int32)) C dL_refuses_646 (by decide) ?_
  refine z_iload C dL_refuses_647 6 rfl ?_
  refine z_iconst (v := (1 : Int32)) C dL_refuses_649 (by decide) ?_
  refine z_icmp_ne (tgt := 657) C dL_refuses_650 (by decide) (fun _ => ?_) (fun c => absurd c (by decide))
  refine z_iload C dL_refuses_657 5 rfl ?_
  refine z_lS C 4 [.ref (ad 0), .int (13 : Int32), .int (0 : Int32), .int (-2147483648 : Int32)] [] (zBud_r hB) (cL_act_creditAt_x1 (zC_I C) (zC_st C) (n := 130) (R_creditAt2 (by decide) (by decide))) gL_refuses_L_act (by decide +kernel) rfl dL_refuses_659 rfl ⟨Nat.le_of_ble_eq_true rfl, Nat.le_of_ble_eq_true rfl⟩ rfl (Nat.le_of_ble_eq_true rfl) ?_
  have C := zCT_p C (zBud_r hB); have hQ := hp _ hQ; have hB := zBud_p hB
  refine z_bipush (v := (-71 : Int32)) C dL_refuses_662 (by decide) ?_
  refine z_icmp_ne (tgt := 699) C dL_refuses_664 (by decide) (fun c => absurd (by decide) c) (fun _ => ?_)
  refine z_aload_n C dL_refuses_667 rfl 11 rfl ?_
  refine z_bipush (v := (14 : Int32)) C dL_refuses_668 (by decide) ?_
  refine z_iload C dL_refuses_670 4 rfl ?_
  refine z_iconst (v := (0 : Int32)) C dL_refuses_672 (by decide) ?_
  refine z_lS C 4 [.ref (ad 0), .int (14 : Int32), .int (-2147483648 : Int32), .int (0 : Int32)] [] (zBud_r hB) (cL_act_afterCredits_x1 (zC_I C) (zC_st C) (n := 130) (R_afterCredits (by decide))) gL_refuses_L_act (by decide +kernel) rfl dL_refuses_673 rfl ⟨Nat.le_of_ble_eq_true rfl, Nat.le_of_ble_eq_true rfl⟩ rfl (Nat.le_of_ble_eq_true rfl) ?_
  have C := zCT_p C (zBud_r hB); have hQ := hp _ hQ; have hB := zBud_p hB
  refine z_bipush (v := (-71 : Int32)) C dL_refuses_676 (by decide) ?_
  refine z_icmp_ne (tgt := 699) C dL_refuses_678 (by decide) (fun c => absurd (by decide) c) (fun _ => ?_)
  refine z_aload_n C dL_refuses_681 rfl 11 rfl ?_
  refine z_bipush (v := (15 : Int32)) C dL_refuses_682 (by decide) ?_
  refine z_iload C dL_refuses_684 4 rfl ?_
  refine z_iconst (v := (0 : Int32)) C dL_refuses_686 (by decide) ?_
  refine z_lS C 4 [.ref (ad 0), .int (15 : Int32), .int (-2147483648 : Int32), .int (0 : Int32)] [] (zBud_r hB) (cL_act_bestSum_x1 (zC_I C) (zC_st C) (n := 130) (R_bestSum (by decide))) gL_refuses_L_act (by decide +kernel) rfl dL_refuses_687 rfl ⟨Nat.le_of_ble_eq_true rfl, Nat.le_of_ble_eq_true rfl⟩ rfl (Nat.le_of_ble_eq_true rfl) ?_
  have C := zCT_p C (zBud_r hB); have hQ := hp _ hQ; have hB := zBud_p hB
  refine z_bipush (v := (-71 : Int32)) C dL_refuses_690 (by decide) ?_
  refine z_icmp_ne (tgt := 699) C dL_refuses_692 (by decide) (fun c => absurd (by decide) c) (fun _ => ?_)
  refine z_iconst (v := (1 : Int32)) C dL_refuses_695 (by decide) ?_
  refine z_goto (tgt := 700) C dL_refuses_696 (by decide) ?_
  refine z_istore (y := (1 : Int32)) (lv' := [(11, .int (1 : Int32)), (10, .int (-2147483648 : Int32)), (9, .int (-2147483648 : Int32)), (8, .int (-2147483648 : Int32)), (7, .int (-2147483648 : Int32)), (6, .int (-2147483648 : Int32)), (5, .int (3 : Int32)), (4, .int (2147483647 : Int32)), (3, .int v), (2, .int c), (1, .int y), (0, .ref (ad 0))]) C dL_refuses_700 (by decide) rfl rfl ?_
  refine z_iload C dL_refuses_702 0 rfl ?_
  refine z_if_ne (tgt := 709) C dL_refuses_704 (by decide) (fun _ => ?_) (fun c => absurd c (by decide))
  refine z_iinc (j := 6) (v := (4 : Int32)) (d := (1 : Int32)) (lv' := [(5, .int (4 : Int32)), (11, .int (1 : Int32)), (10, .int (-2147483648 : Int32)), (9, .int (-2147483648 : Int32)), (8, .int (-2147483648 : Int32)), (7, .int (-2147483648 : Int32)), (6, .int (-2147483648 : Int32)), (4, .int (2147483647 : Int32)), (3, .int v), (2, .int c), (1, .int y), (0, .ref (ad 0))]) C dL_refuses_709 rfl (by decide) (by decide) (by decide) rfl ?_
  refine z_goto (tgt := 24) C dL_refuses_712 (by decide) ?_
  refine z_iload C dL_refuses_24 0 rfl ?_
  refine z_iconst (v := (4 : Int32)) C dL_refuses_26 (by decide) ?_
  refine z_icmp_ge (tgt := 715) C dL_refuses_27 (by decide) (fun _ => ?_) (fun c => absurd (by decide) c)
  refine z_aload_n C dL_refuses_715 rfl 11 rfl ?_
  exact kk _ C hQ hB
