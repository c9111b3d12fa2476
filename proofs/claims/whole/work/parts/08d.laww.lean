set_option maxRecDepth 100000 in
set_option maxHeartbeats 4000000 in
theorem w_L_law_c0 {h : zH} {ad : Nat → Nat} {G : zG} {b N f n : Nat} {xs : Nat → Int32} {s9 : zS} {rec : Int32 → zS → Option (Int32 × zS)} {tb : List ExceptionTableEntry} (C : zCT tb h ad zLL 7 G cL_law RL wsL_law 12 428) (X : zScr ad zLL G b N xs) (hQ : zQl ad b G) (hB : zBud G (f + 1)) (ih : ∀ (G : zG) (v4 : Int32) (s : zS), zCT tb h ad zLL 7 G cL_law RL wsL_law 12 428 → zScr ad zLL G b N xs → zQl ad b G → zBud G f → rec v4 s = some (1, s9) → zV h ad zLL 7 G s 23 [(0, .ref b), (1, .ref (ad 0)), (2, .ref (ad 27)), (3, .ref (ad 46)), (4, .int v4)] []) {v4 : Int32} {s : zS} (hm : m_L_law_c0 rec n N xs v4 s = some (1, s9)) : zV h ad zLL 7 G s 136 [(0, .ref b), (1, .ref (ad 0)), (2, .ref (ad 27)), (3, .ref (ad 46)), (4, .int v4)] [] := by
  rw [m_L_law_c0] at hm
  refine z_aload_n C dL_law_136 rfl 1 rfl ?_
  refine z_aload_n C dL_law_137 rfl 0 rfl ?_
  refine z_iload C dL_law_138 4 rfl ?_
  refine z_iconst (v := (1 : Int32)) C dL_law_140 (by decide) ?_
  refine z_iadd C dL_law_141 ?_
  obtain ⟨x5, i_x5, e_x5, hm⟩ := zRd_of hm
  refine z_sld C X i_x5 e_x5 dL_law_142 ?_
  refine z_aload_n C dL_law_143 rfl 0 rfl ?_
  refine z_iload C dL_law_144 4 rfl ?_
  refine z_iconst (v := (2 : Int32)) C dL_law_146 (by decide) ?_
  refine z_iadd C dL_law_147 ?_
  obtain ⟨x6, i_x6, e_x6, hm⟩ := zRd_of hm
  refine z_sld C X i_x6 e_x6 dL_law_148 ?_
  refine z_aload_n C dL_law_149 rfl 0 rfl ?_
  refine z_iload C dL_law_150 4 rfl ?_
  refine z_iconst (v := (3 : Int32)) C dL_law_152 (by decide) ?_
  refine z_iadd C dL_law_153 ?_
  obtain ⟨x7, i_x7, e_x7, hm⟩ := zRd_of hm
  refine z_sld C X i_x7 e_x7 dL_law_154 ?_
  refine z_aload_n C dL_law_155 rfl 0 rfl ?_
  refine z_iload C dL_law_156 4 rfl ?_
  refine z_iconst (v := (4 : Int32)) C dL_law_158 (by decide) ?_
  refine z_iadd C dL_law_159 ?_
  obtain ⟨x8, i_x8, e_x8, hm⟩ := zRd_of hm
  refine z_sld C X i_x8 e_x8 dL_law_160 ?_
  obtain ⟨x9, s10, q_s10, hm⟩ := zBd_of hm
  refine z_lS C 5 [.ref (ad 0), .int x5, .int x6, .int x7, .int x8] [] (zBud_r hB) (c_L_define (zC_I C) (zC_st C) q_s10) gL_law_L_define (by decide +kernel) rfl dL_law_161 rfl ⟨Nat.le_of_ble_eq_true rfl, Nat.le_of_ble_eq_true rfl⟩ rfl (Nat.le_of_ble_eq_true rfl) ?_
  have C := zCT_p C (zBud_r hB)
  have X := zScr_p X
  have hQ := zQl_p hQ
  refine z_istore (y := x9) (lv' := [(5, .int x9), (0, .ref b), (1, .ref (ad 0)), (2, .ref (ad 27)), (3, .ref (ad 46)), (4, .int v4)]) C dL_law_164 (by decide) rfl rfl ?_
  refine z_aload_n C dL_law_166 rfl 3 rfl ?_
  refine z_aload_n C dL_law_167 rfl 1 rfl ?_
  refine z_iload C dL_law_168 5 rfl ?_
  refine z_iconst (v := (1 : Int32)) C dL_law_170 (by decide) ?_
  refine z_iadd C dL_law_171 ?_
  obtain ⟨x11, i_x11, e_x11, hm⟩ := zRd_of hm
  refine z_sld C X i_x11 e_x11 dL_law_172 ?_
  refine z_aload_n C dL_law_173 rfl 1 rfl ?_
  refine z_iload C dL_law_174 5 rfl ?_
  refine z_iconst (v := (2 : Int32)) C dL_law_176 (by decide) ?_
  refine z_iadd C dL_law_177 ?_
  obtain ⟨x12, i_x12, e_x12, hm⟩ := zRd_of hm
  refine z_sld C X i_x12 e_x12 dL_law_178 ?_
  refine z_aload_n C dL_law_179 rfl 1 rfl ?_
  refine z_iload C dL_law_180 5 rfl ?_
  refine z_iconst (v := (3 : Int32)) C dL_law_182 (by decide) ?_
  refine z_iadd C dL_law_183 ?_
  obtain ⟨x13, i_x13, e_x13, hm⟩ := zRd_of hm
  refine z_sld C X i_x13 e_x13 dL_law_184 ?_
  refine z_aload_n C dL_law_185 rfl 1 rfl ?_
  refine z_iload C dL_law_186 5 rfl ?_
  refine z_iconst (v := (4 : Int32)) C dL_law_188 (by decide) ?_
  refine z_iadd C dL_law_189 ?_
  obtain ⟨x14, i_x14, e_x14, hm⟩ := zRd_of hm
  refine z_sld C X i_x14 e_x14 dL_law_190 ?_
  obtain ⟨x15, s16, q_s16, hm⟩ := zBd_of hm
  obtain ⟨s17, e_s17, hm⟩ := zLt_of hm
  refine z_dV (vd := true) (Cn := RX8) (k := 0) (o := 27) C 4 [.int x11, .int x12, .int x13, .int x14] [] sM (c_X8_define (zI_sub sM (zC_I C)) (zC_st C) q_s16) gL_law_X8_define (by decide +kernel) kM0 vc8 rfl rfl dL_law_191 rfl ⟨Nat.le_of_ble_eq_true rfl, Nat.le_of_ble_eq_true rfl⟩ rfl (Nat.le_of_ble_eq_true rfl) ?_
  rw [show zMix 27 zLM.length s10 s16 = s17 from e_s17.symm]
  refine z_aload_n C dL_law_194 rfl 3 rfl ?_
  obtain ⟨x18, s19, q_s19, hm⟩ := zBd_of hm
  obtain ⟨s20, e_s20, hm⟩ := zLt_of hm
  refine z_dV (vd := false) (Cn := RX8) (k := 0) (o := 27) C 0 [] [] sM (c_X8_thrown (zI_sub sM (zC_I C)) (zC_st C) q_s19) gL_law_X8_thrown (by decide +kernel) kM0 vc8 rfl rfl dL_law_195 rfl ⟨Nat.le_of_ble_eq_true rfl, Nat.le_of_ble_eq_true rfl⟩ rfl (Nat.le_of_ble_eq_true rfl) ?_
  rw [show zMix 27 zLM.length s17 s19 = s20 from e_s20.symm]
  refine z_iload C dL_law_198 0 rfl ?_
  refine z_icmp_eq (tgt := 205) C dL_law_200 (by decide) (fun c21 => ?_) (fun c21 => ?_)
  · have hm := zIt hm c21
    refine z_goto (tgt := 1247) C dL_law_205 (by decide) ?_
    obtain ⟨x22, e_x22, hm⟩ := zLt_of hm
    refine z_iinc (j := 5) (v := x22) (d := (5 : Int32)) (lv' := [(4, .int x22), (5, .int x9), (0, .ref b), (1, .ref (ad 0)), (2, .ref (ad 27)), (3, .ref (ad 46))]) C dL_law_1247 rfl (by decide) e_x22 (by decide) rfl ?_
    refine z_goto (tgt := 23) C dL_law_1250 (by decide) ?_
    exact z_sub [2, 3, 4, 5, 0] rfl (ih _ _ _ C X hQ (zBud_p hB) hm)
  · have hm := zIf hm c21
    refine z_iconst (v := (0 : Int32)) C dL_law_203 (by decide) ?_
    exact absurd (Sum.inl.inj (zRt_of hm).1) (by decide)
set_option maxRecDepth 100000 in
set_option maxHeartbeats 4000000 in
theorem w_L_law_c1 {h : zH} {ad : Nat → Nat} {G : zG} {b N f n : Nat} {xs : Nat → Int32} {s9 : zS} {rec : Int32 → zS → Option (Int32 × zS)} {tb : List ExceptionTableEntry} (C : zCT tb h ad zLL 7 G cL_law RL wsL_law 12 428) (X : zScr ad zLL G b N xs) (hQ : zQl ad b G) (hB : zBud G (f + 1)) (ih : ∀ (G : zG) (v4 : Int32) (s : zS), zCT tb h ad zLL 7 G cL_law RL wsL_law 12 428 → zScr ad zLL G b N xs → zQl ad b G → zBud G f → rec v4 s = some (1, s9) → zV h ad zLL 7 G s 23 [(0, .ref b), (1, .ref (ad 0)), (2, .ref (ad 27)), (3, .ref (ad 46)), (4, .int v4)] []) {v4 : Int32} {s : zS} (hm : m_L_law_c1 rec n N xs v4 s = some (1, s9)) : zV h ad zLL 7 G s 208 [(0, .ref b), (1, .ref (ad 0)), (2, .ref (ad 27)), (3, .ref (ad 46)), (4, .int v4)] [] := by
  rw [m_L_law_c1] at hm
  refine z_aload_n C dL_law_208 rfl 1 rfl ?_
  refine z_aload_n C dL_law_209 rfl 0 rfl ?_
  refine z_iload C dL_law_210 4 rfl ?_
  refine z_iconst (v := (1 : Int32)) C dL_law_212 (by decide) ?_
  refine z_iadd C dL_law_213 ?_
  obtain ⟨x24, i_x24, e_x24, hm⟩ := zRd_of hm
  refine z_sld C X i_x24 e_x24 dL_law_214 ?_
  refine z_aload_n C dL_law_215 rfl 0 rfl ?_
  refine z_iload C dL_law_216 4 rfl ?_
  refine z_iconst (v := (2 : Int32)) C dL_law_218 (by decide) ?_
  refine z_iadd C dL_law_219 ?_
  obtain ⟨x25, i_x25, e_x25, hm⟩ := zRd_of hm
  refine z_sld C X i_x25 e_x25 dL_law_220 ?_
  refine z_aload_n C dL_law_221 rfl 3 rfl ?_
  obtain ⟨x26, s27, q_s27, hm⟩ := zBd_of hm
  refine z_lS C 4 [.ref (ad 0), .int x24, .int x25, .ref (ad 46)] [] (zBud_r hB) (c_L_answer (zC_I C) (zC_st C) q_s27) gL_law_L_answer (by decide +kernel) rfl dL_law_222 rfl ⟨Nat.le_of_ble_eq_true rfl, Nat.le_of_ble_eq_true rfl⟩ rfl (Nat.le_of_ble_eq_true rfl) ?_
  have C := zCT_p C (zBud_r hB)
  have X := zScr_p X
  have hQ := zQl_p hQ
  refine z_istore (y := x26) (lv' := [(5, .int x26), (0, .ref b), (1, .ref (ad 0)), (2, .ref (ad 27)), (3, .ref (ad 46)), (4, .int v4)]) C dL_law_225 (by decide) rfl rfl ?_
  refine z_aload_n C dL_law_227 rfl 3 rfl ?_
  refine z_aload_n C dL_law_228 rfl 1 rfl ?_
  refine z_iload C dL_law_229 5 rfl ?_
  refine z_iconst (v := (1 : Int32)) C dL_law_231 (by decide) ?_
  refine z_iadd C dL_law_232 ?_
  obtain ⟨x28, i_x28, e_x28, hm⟩ := zRd_of hm
  refine z_sld C X i_x28 e_x28 dL_law_233 ?_
  refine z_aload_n C dL_law_234 rfl 1 rfl ?_
  refine z_iload C dL_law_235 5 rfl ?_
  refine z_iconst (v := (2 : Int32)) C dL_law_237 (by decide) ?_
  refine z_iadd C dL_law_238 ?_
  obtain ⟨x29, i_x29, e_x29, hm⟩ := zRd_of hm
  refine z_sld C X i_x29 e_x29 dL_law_239 ?_
  obtain ⟨x30, s31, q_s31, hm⟩ := zBd_of hm
  obtain ⟨s32, e_s32, hm⟩ := zLt_of hm
  refine z_dV (vd := false) (Cn := RX8) (k := 0) (o := 27) C 2 [.int x28, .int x29] [] sM (c_X8_answer (zI_sub sM (zC_I C)) (zC_st C) q_s31) gL_law_X8_answer (by decide +kernel) kM0 vc8 rfl rfl dL_law_240 rfl ⟨Nat.le_of_ble_eq_true rfl, Nat.le_of_ble_eq_true rfl⟩ rfl (Nat.le_of_ble_eq_true rfl) ?_
  rw [show zMix 27 zLM.length s27 s31 = s32 from e_s32.symm]
  refine z_istore (y := x30) (lv' := [(6, .int x30), (5, .int x26), (0, .ref b), (1, .ref (ad 0)), (2, .ref (ad 27)), (3, .ref (ad 46)), (4, .int v4)]) C dL_law_243 (by decide) rfl rfl ?_
  refine z_aload_n C dL_law_245 rfl 4 rfl ?_
  obtain ⟨x33, s34, q_s34, hm⟩ := zBd_of hm
  obtain ⟨s35, e_s35, hm⟩ := zLt_of hm
  refine z_dV (vd := false) (Cn := RX8) (k := 0) (o := 27) C 0 [] [] sM (c_X8_thrown (zI_sub sM (zC_I C)) (zC_st C) q_s34) gL_law_X8_thrown (by decide +kernel) kM0 vc8 rfl rfl dL_law_246 rfl ⟨Nat.le_of_ble_eq_true rfl, Nat.le_of_ble_eq_true rfl⟩ rfl (Nat.le_of_ble_eq_true rfl) ?_
  rw [show zMix 27 zLM.length s32 s34 = s35 from e_s35.symm]
  refine z_iload C dL_law_249 1 rfl ?_
  refine z_icmp_eq (tgt := 256) C dL_law_251 (by decide) (fun c36 => ?_) (fun c36 => ?_)
  · have hm := zIt hm c36
    refine z_iload C dL_law_256 1 rfl ?_
    refine z_if_ne (tgt := 273) C dL_law_258 (by decide) (fun c37 => ?_) (fun c37 => ?_)
    · have hm := zIf hm c37
      refine z_goto (tgt := 1247) C dL_law_273 (by decide) ?_
      obtain ⟨x38, e_x38, hm⟩ := zLt_of hm
      refine z_iinc (j := 6) (v := x38) (d := (5 : Int32)) (lv' := [(4, .int x38), (6, .int x30), (5, .int x26), (0, .ref b), (1, .ref (ad 0)), (2, .ref (ad 27)), (3, .ref (ad 46))]) C dL_law_1247 rfl (by decide) e_x38 (by decide) rfl ?_
      refine z_goto (tgt := 23) C dL_law_1250 (by decide) ?_
      exact z_sub [3, 4, 5, 6, 0] rfl (ih _ _ _ C X hQ (zBud_p hB) hm)
    · have hm := zIt hm c37
      refine z_aload_n C dL_law_261 rfl 5 rfl ?_
      refine z_iconst (v := (0 : Int32)) C dL_law_262 (by decide) ?_
      obtain ⟨x39, i_x39, e_x39, hm⟩ := zRd_of hm
      refine z_lald C kL46 i_x39 e_x39 dL_law_263 ?_
      refine z_iload C dL_law_264 0 rfl ?_
      refine z_i2l C dL_law_266 ?_
      refine z_lcmp C dL_law_267 ?_
      refine z_if_eq (tgt := 273) C dL_law_268 (by decide) (fun c40 => ?_) (fun c40 => ?_)
      · have hm := zIt hm c40
        refine z_goto (tgt := 1247) C dL_law_273 (by decide) ?_
        obtain ⟨x41, e_x41, hm⟩ := zLt_of hm
        refine z_iinc (j := 6) (v := x41) (d := (5 : Int32)) (lv' := [(4, .int x41), (6, .int x30), (5, .int x26), (0, .ref b), (1, .ref (ad 0)), (2, .ref (ad 27)), (3, .ref (ad 46))]) C dL_law_1247 rfl (by decide) e_x41 (by decide) rfl ?_
        refine z_goto (tgt := 23) C dL_law_1250 (by decide) ?_
        exact z_sub [3, 4, 5, 6, 0] rfl (ih _ _ _ C X hQ (zBud_p hB) hm)
      · have hm := zIf hm c40
        refine z_iconst (v := (0 : Int32)) C dL_law_271 (by decide) ?_
        exact absurd (Sum.inl.inj (zRt_of hm).1) (by decide)
  · have hm := zIf hm c36
    refine z_iconst (v := (0 : Int32)) C dL_law_254 (by decide) ?_
    exact absurd (Sum.inl.inj (zRt_of hm).1) (by decide)
set_option maxRecDepth 100000 in
set_option maxHeartbeats 4000000 in
theorem w_L_law_c2 {h : zH} {ad : Nat → Nat} {G : zG} {b N f n : Nat} {xs : Nat → Int32} {s9 : zS} {rec : Int32 → zS → Option (Int32 × zS)} {tb : List ExceptionTableEntry} (C : zCT tb h ad zLL 7 G cL_law RL wsL_law 12 428) (X : zScr ad zLL G b N xs) (hQ : zQl ad b G) (hB : zBud G (f + 1)) (ih : ∀ (G : zG) (v4 : Int32) (s : zS), zCT tb h ad zLL 7 G cL_law RL wsL_law 12 428 → zScr ad zLL G b N xs → zQl ad b G → zBud G f → rec v4 s = some (1, s9) → zV h ad zLL 7 G s 23 [(0, .ref b), (1, .ref (ad 0)), (2, .ref (ad 27)), (3, .ref (ad 46)), (4, .int v4)] []) {v4 : Int32} {s : zS} (hm : m_L_law_c2 rec n N xs v4 s = some (1, s9)) : zV h ad zLL 7 G s 276 [(0, .ref b), (1, .ref (ad 0)), (2, .ref (ad 27)), (3, .ref (ad 46)), (4, .int v4)] [] := by
  rw [m_L_law_c2] at hm
  refine z_aload_n C dL_law_276 rfl 1 rfl ?_
  refine z_aload_n C dL_law_277 rfl 0 rfl ?_
  refine z_iload C dL_law_278 4 rfl ?_
  refine z_iconst (v := (1 : Int32)) C dL_law_280 (by decide) ?_
  refine z_iadd C dL_law_281 ?_
  obtain ⟨x43, i_x43, e_x43, hm⟩ := zRd_of hm
  refine z_sld C X i_x43 e_x43 dL_law_282 ?_
  refine z_aload_n C dL_law_283 rfl 3 rfl ?_
  obtain ⟨x44, s45, q_s45, hm⟩ := zBd_of hm
  refine z_lS C 3 [.ref (ad 0), .int x43, .ref (ad 46)] [] (zBud_r hB) (c_L_kindOf (zC_I C) (zC_st C) q_s45) gL_law_L_kindOf (by decide +kernel) rfl dL_law_284 rfl ⟨Nat.le_of_ble_eq_true rfl, Nat.le_of_ble_eq_true rfl⟩ rfl (Nat.le_of_ble_eq_true rfl) ?_
  have C := zCT_p C (zBud_r hB)
  have X := zScr_p X
  have hQ := zQl_p hQ
  refine z_istore (y := x44) (lv' := [(5, .int x44), (0, .ref b), (1, .ref (ad 0)), (2, .ref (ad 27)), (3, .ref (ad 46)), (4, .int v4)]) C dL_law_287 (by decide) rfl rfl ?_
  refine z_aload_n C dL_law_289 rfl 3 rfl ?_
  refine z_aload_n C dL_law_290 rfl 1 rfl ?_
  refine z_iload C dL_law_291 5 rfl ?_
  refine z_iconst (v := (1 : Int32)) C dL_law_293 (by decide) ?_
  refine z_iadd C dL_law_294 ?_
  obtain ⟨x46, i_x46, e_x46, hm⟩ := zRd_of hm
  refine z_sld C X i_x46 e_x46 dL_law_295 ?_
  obtain ⟨x47, s48, q_s48, hm⟩ := zBd_of hm
  obtain ⟨s49, e_s49, hm⟩ := zLt_of hm
  refine z_dV (vd := false) (Cn := RX8) (k := 0) (o := 27) C 1 [.int x46] [] sM (c_X8_kindOf (zI_sub sM (zC_I C)) (zC_st C) q_s48) gL_law_X8_kindOf (by decide +kernel) kM0 vc8 rfl rfl dL_law_296 rfl ⟨Nat.le_of_ble_eq_true rfl, Nat.le_of_ble_eq_true rfl⟩ rfl (Nat.le_of_ble_eq_true rfl) ?_
  rw [show zMix 27 zLM.length s45 s48 = s49 from e_s49.symm]
  refine z_istore (y := x47) (lv' := [(6, .int x47), (5, .int x44), (0, .ref b), (1, .ref (ad 0)), (2, .ref (ad 27)), (3, .ref (ad 46)), (4, .int v4)]) C dL_law_299 (by decide) rfl rfl ?_
  refine z_aload_n C dL_law_301 rfl 4 rfl ?_
  obtain ⟨x50, s51, q_s51, hm⟩ := zBd_of hm
  obtain ⟨s52, e_s52, hm⟩ := zLt_of hm
  refine z_dV (vd := false) (Cn := RX8) (k := 0) (o := 27) C 0 [] [] sM (c_X8_thrown (zI_sub sM (zC_I C)) (zC_st C) q_s51) gL_law_X8_thrown (by decide +kernel) kM0 vc8 rfl rfl dL_law_302 rfl ⟨Nat.le_of_ble_eq_true rfl, Nat.le_of_ble_eq_true rfl⟩ rfl (Nat.le_of_ble_eq_true rfl) ?_
  rw [show zMix 27 zLM.length s49 s51 = s52 from e_s52.symm]
  refine z_iload C dL_law_305 1 rfl ?_
  refine z_icmp_eq (tgt := 312) C dL_law_307 (by decide) (fun c53 => ?_) (fun c53 => ?_)
  · have hm := zIt hm c53
    refine z_iload C dL_law_312 1 rfl ?_
    refine z_if_ne (tgt := 329) C dL_law_314 (by decide) (fun c54 => ?_) (fun c54 => ?_)
    · have hm := zIf hm c54
      refine z_goto (tgt := 1247) C dL_law_329 (by decide) ?_
      obtain ⟨x55, e_x55, hm⟩ := zLt_of hm
      refine z_iinc (j := 6) (v := x55) (d := (5 : Int32)) (lv' := [(4, .int x55), (6, .int x47), (5, .int x44), (0, .ref b), (1, .ref (ad 0)), (2, .ref (ad 27)), (3, .ref (ad 46))]) C dL_law_1247 rfl (by decide) e_x55 (by decide) rfl ?_
      refine z_goto (tgt := 23) C dL_law_1250 (by decide) ?_
      exact z_sub [3, 4, 5, 6, 0] rfl (ih _ _ _ C X hQ (zBud_p hB) hm)
    · have hm := zIt hm c54
      refine z_aload_n C dL_law_317 rfl 5 rfl ?_
      refine z_iconst (v := (0 : Int32)) C dL_law_318 (by decide) ?_
      obtain ⟨x56, i_x56, e_x56, hm⟩ := zRd_of hm
      refine z_lald C kL46 i_x56 e_x56 dL_law_319 ?_
      refine z_iload C dL_law_320 0 rfl ?_
      refine z_i2l C dL_law_322 ?_
      refine z_lcmp C dL_law_323 ?_
      refine z_if_eq (tgt := 329) C dL_law_324 (by decide) (fun c57 => ?_) (fun c57 => ?_)
      · have hm := zIt hm c57
        refine z_goto (tgt := 1247) C dL_law_329 (by decide) ?_
        obtain ⟨x58, e_x58, hm⟩ := zLt_of hm
        refine z_iinc (j := 6) (v := x58) (d := (5 : Int32)) (lv' := [(4, .int x58), (6, .int x47), (5, .int x44), (0, .ref b), (1, .ref (ad 0)), (2, .ref (ad 27)), (3, .ref (ad 46))]) C dL_law_1247 rfl (by decide) e_x58 (by decide) rfl ?_
        refine z_goto (tgt := 23) C dL_law_1250 (by decide) ?_
        exact z_sub [3, 4, 5, 6, 0] rfl (ih _ _ _ C X hQ (zBud_p hB) hm)
      · have hm := zIf hm c57
        refine z_iconst (v := (0 : Int32)) C dL_law_327 (by decide) ?_
        exact absurd (Sum.inl.inj (zRt_of hm).1) (by decide)
  · have hm := zIf hm c53
    refine z_iconst (v := (0 : Int32)) C dL_law_310 (by decide) ?_
    exact absurd (Sum.inl.inj (zRt_of hm).1) (by decide)
set_option maxRecDepth 100000 in
set_option maxHeartbeats 4000000 in
theorem w_L_law_c3 {h : zH} {ad : Nat → Nat} {G : zG} {b N f n : Nat} {xs : Nat → Int32} {s9 : zS} {rec : Int32 → zS → Option (Int32 × zS)} {tb : List ExceptionTableEntry} (C : zCT tb h ad zLL 7 G cL_law RL wsL_law 12 428) (X : zScr ad zLL G b N xs) (hQ : zQl ad b G) (hB : zBud G (f + 1)) (ih : ∀ (G : zG) (v4 : Int32) (s : zS), zCT tb h ad zLL 7 G cL_law RL wsL_law 12 428 → zScr ad zLL G b N xs → zQl ad b G → zBud G f → rec v4 s = some (1, s9) → zV h ad zLL 7 G s 23 [(0, .ref b), (1, .ref (ad 0)), (2, .ref (ad 27)), (3, .ref (ad 46)), (4, .int v4)] []) {v4 : Int32} {s : zS} (hm : m_L_law_c3 rec n N xs v4 s = some (1, s9)) : zV h ad zLL 7 G s 332 [(0, .ref b), (1, .ref (ad 0)), (2, .ref (ad 27)), (3, .ref (ad 46)), (4, .int v4)] [] := by
  rw [m_L_law_c3] at hm
  refine z_aload_n C dL_law_332 rfl 1 rfl ?_
  refine z_aload_n C dL_law_333 rfl 0 rfl ?_
  refine z_iload C dL_law_334 4 rfl ?_
  refine z_iconst (v := (1 : Int32)) C dL_law_336 (by decide) ?_
  refine z_iadd C dL_law_337 ?_
  obtain ⟨x60, i_x60, e_x60, hm⟩ := zRd_of hm
  refine z_sld C X i_x60 e_x60 dL_law_338 ?_
  refine z_aload_n C dL_law_339 rfl 3 rfl ?_
  obtain ⟨x61, s62, q_s62, hm⟩ := zBd_of hm
  refine z_lS C 3 [.ref (ad 0), .int x60, .ref (ad 46)] [] (zBud_r hB) (c_L_value (zC_I C) (zC_st C) q_s62) gL_law_L_value (by decide +kernel) rfl dL_law_340 rfl ⟨Nat.le_of_ble_eq_true rfl, Nat.le_of_ble_eq_true rfl⟩ rfl (Nat.le_of_ble_eq_true rfl) ?_
  have C := zCT_p C (zBud_r hB)
  have X := zScr_p X
  have hQ := zQl_p hQ
  refine z_istore (y := x61) (lv' := [(5, .int x61), (0, .ref b), (1, .ref (ad 0)), (2, .ref (ad 27)), (3, .ref (ad 46)), (4, .int v4)]) C dL_law_343 (by decide) rfl rfl ?_
  refine z_aload_n C dL_law_345 rfl 3 rfl ?_
  refine z_aload_n C dL_law_346 rfl 1 rfl ?_
  refine z_iload C dL_law_347 5 rfl ?_
  refine z_iconst (v := (1 : Int32)) C dL_law_349 (by decide) ?_
  refine z_iadd C dL_law_350 ?_
  obtain ⟨x63, i_x63, e_x63, hm⟩ := zRd_of hm
  refine z_sld C X i_x63 e_x63 dL_law_351 ?_
  obtain ⟨x64, s65, q_s65, hm⟩ := zBd_of hm
  obtain ⟨s66, e_s66, hm⟩ := zLt_of hm
  refine z_dV (vd := false) (Cn := RX8) (k := 0) (o := 27) C 1 [.int x63] [] sM (c_X8_value (zI_sub sM (zC_I C)) (zC_st C) q_s65) gL_law_X8_value (by decide +kernel) kM0 vc8 rfl rfl dL_law_352 rfl ⟨Nat.le_of_ble_eq_true rfl, Nat.le_of_ble_eq_true rfl⟩ rfl (Nat.le_of_ble_eq_true rfl) ?_
  rw [show zMix 27 zLM.length s62 s65 = s66 from e_s66.symm]
  refine z_istore (y := x64) (lv' := [(6, .int x64), (5, .int x61), (0, .ref b), (1, .ref (ad 0)), (2, .ref (ad 27)), (3, .ref (ad 46)), (4, .int v4)]) C dL_law_355 (by decide) rfl rfl ?_
  refine z_aload_n C dL_law_357 rfl 4 rfl ?_
  obtain ⟨x67, s68, q_s68, hm⟩ := zBd_of hm
  obtain ⟨s69, e_s69, hm⟩ := zLt_of hm
  refine z_dV (vd := false) (Cn := RX8) (k := 0) (o := 27) C 0 [] [] sM (c_X8_thrown (zI_sub sM (zC_I C)) (zC_st C) q_s68) gL_law_X8_thrown (by decide +kernel) kM0 vc8 rfl rfl dL_law_358 rfl ⟨Nat.le_of_ble_eq_true rfl, Nat.le_of_ble_eq_true rfl⟩ rfl (Nat.le_of_ble_eq_true rfl) ?_
  rw [show zMix 27 zLM.length s66 s68 = s69 from e_s69.symm]
  refine z_iload C dL_law_361 1 rfl ?_
  refine z_icmp_eq (tgt := 368) C dL_law_363 (by decide) (fun c70 => ?_) (fun c70 => ?_)
  · have hm := zIt hm c70
    refine z_iload C dL_law_368 1 rfl ?_
    refine z_if_ne (tgt := 385) C dL_law_370 (by decide) (fun c71 => ?_) (fun c71 => ?_)
    · have hm := zIf hm c71
      refine z_goto (tgt := 1247) C dL_law_385 (by decide) ?_
      obtain ⟨x72, e_x72, hm⟩ := zLt_of hm
      refine z_iinc (j := 6) (v := x72) (d := (5 : Int32)) (lv' := [(4, .int x72), (6, .int x64), (5, .int x61), (0, .ref b), (1, .ref (ad 0)), (2, .ref (ad 27)), (3, .ref (ad 46))]) C dL_law_1247 rfl (by decide) e_x72 (by decide) rfl ?_
      refine z_goto (tgt := 23) C dL_law_1250 (by decide) ?_
      exact z_sub [3, 4, 5, 6, 0] rfl (ih _ _ _ C X hQ (zBud_p hB) hm)
    · have hm := zIt hm c71
      refine z_aload_n C dL_law_373 rfl 5 rfl ?_
      refine z_iconst (v := (0 : Int32)) C dL_law_374 (by decide) ?_
      obtain ⟨x73, i_x73, e_x73, hm⟩ := zRd_of hm
      refine z_lald C kL46 i_x73 e_x73 dL_law_375 ?_
      refine z_iload C dL_law_376 0 rfl ?_
      refine z_i2l C dL_law_378 ?_
      refine z_lcmp C dL_law_379 ?_
      refine z_if_eq (tgt := 385) C dL_law_380 (by decide) (fun c74 => ?_) (fun c74 => ?_)
      · have hm := zIt hm c74
        refine z_goto (tgt := 1247) C dL_law_385 (by decide) ?_
        obtain ⟨x75, e_x75, hm⟩ := zLt_of hm
        refine z_iinc (j := 6) (v := x75) (d := (5 : Int32)) (lv' := [(4, .int x75), (6, .int x64), (5, .int x61), (0, .ref b), (1, .ref (ad 0)), (2, .ref (ad 27)), (3, .ref (ad 46))]) C dL_law_1247 rfl (by decide) e_x75 (by decide) rfl ?_
        refine z_goto (tgt := 23) C dL_law_1250 (by decide) ?_
        exact z_sub [3, 4, 5, 6, 0] rfl (ih _ _ _ C X hQ (zBud_p hB) hm)
      · have hm := zIf hm c74
        refine z_iconst (v := (0 : Int32)) C dL_law_383 (by decide) ?_
        exact absurd (Sum.inl.inj (zRt_of hm).1) (by decide)
  · have hm := zIf hm c70
    refine z_iconst (v := (0 : Int32)) C dL_law_366 (by decide) ?_
    exact absurd (Sum.inl.inj (zRt_of hm).1) (by decide)
set_option maxRecDepth 100000 in
set_option maxHeartbeats 4000000 in
theorem w_L_law_c4 {h : zH} {ad : Nat → Nat} {G : zG} {b N f n : Nat} {xs : Nat → Int32} {s9 : zS} {rec : Int32 → zS → Option (Int32 × zS)} {tb : List ExceptionTableEntry} (C : zCT tb h ad zLL 7 G cL_law RL wsL_law 12 428) (X : zScr ad zLL G b N xs) (hQ : zQl ad b G) (hB : zBud G (f + 1)) (ih : ∀ (G : zG) (v4 : Int32) (s : zS), zCT tb h ad zLL 7 G cL_law RL wsL_law 12 428 → zScr ad zLL G b N xs → zQl ad b G → zBud G f → rec v4 s = some (1, s9) → zV h ad zLL 7 G s 23 [(0, .ref b), (1, .ref (ad 0)), (2, .ref (ad 27)), (3, .ref (ad 46)), (4, .int v4)] []) {v4 : Int32} {s : zS} (hm : m_L_law_c4 rec n N xs v4 s = some (1, s9)) : zV h ad zLL 7 G s 388 [(0, .ref b), (1, .ref (ad 0)), (2, .ref (ad 27)), (3, .ref (ad 46)), (4, .int v4)] [] := by
  rw [m_L_law_c4] at hm
  refine z_aload_n C dL_law_388 rfl 1 rfl ?_
  refine z_aload_n C dL_law_389 rfl 0 rfl ?_
  refine z_iload C dL_law_390 4 rfl ?_
  refine z_iconst (v := (1 : Int32)) C dL_law_392 (by decide) ?_
  refine z_iadd C dL_law_393 ?_
  obtain ⟨x77, i_x77, e_x77, hm⟩ := zRd_of hm
  refine z_sld C X i_x77 e_x77 dL_law_394 ?_
  refine z_aload_n C dL_law_395 rfl 0 rfl ?_
  refine z_iload C dL_law_396 4 rfl ?_
  refine z_iconst (v := (2 : Int32)) C dL_law_398 (by decide) ?_
  refine z_iadd C dL_law_399 ?_
  obtain ⟨x78, i_x78, e_x78, hm⟩ := zRd_of hm
  refine z_sld C X i_x78 e_x78 dL_law_400 ?_
  refine z_aload_n C dL_law_401 rfl 3 rfl ?_
  obtain ⟨x79, s80, q_s80, hm⟩ := zBd_of hm
  refine z_lS C 4 [.ref (ad 0), .int x77, .int x78, .ref (ad 46)] [] (zBud_r hB) (c_L_boundFor (zC_I C) (zC_st C) q_s80) gL_law_L_boundFor (by decide +kernel) rfl dL_law_402 rfl ⟨Nat.le_of_ble_eq_true rfl, Nat.le_of_ble_eq_true rfl⟩ rfl (Nat.le_of_ble_eq_true rfl) ?_
  have C := zCT_p C (zBud_r hB)
  have X := zScr_p X
  have hQ := zQl_p hQ
  refine z_istore (y := x79) (lv' := [(5, .int x79), (0, .ref b), (1, .ref (ad 0)), (2, .ref (ad 27)), (3, .ref (ad 46)), (4, .int v4)]) C dL_law_405 (by decide) rfl rfl ?_
  refine z_aload_n C dL_law_407 rfl 3 rfl ?_
  refine z_aload_n C dL_law_408 rfl 1 rfl ?_
  refine z_iload C dL_law_409 5 rfl ?_
  refine z_iconst (v := (1 : Int32)) C dL_law_411 (by decide) ?_
  refine z_iadd C dL_law_412 ?_
  obtain ⟨x81, i_x81, e_x81, hm⟩ := zRd_of hm
  refine z_sld C X i_x81 e_x81 dL_law_413 ?_
  refine z_aload_n C dL_law_414 rfl 1 rfl ?_
  refine z_iload C dL_law_415 5 rfl ?_
  refine z_iconst (v := (2 : Int32)) C dL_law_417 (by decide) ?_
  refine z_iadd C dL_law_418 ?_
  obtain ⟨x82, i_x82, e_x82, hm⟩ := zRd_of hm
  refine z_sld C X i_x82 e_x82 dL_law_419 ?_
  obtain ⟨x83, s84, q_s84, hm⟩ := zBd_of hm
  obtain ⟨s85, e_s85, hm⟩ := zLt_of hm
  refine z_dV (vd := false) (Cn := RX8) (k := 0) (o := 27) C 2 [.int x81, .int x82] [] sM (c_X8_boundFor (zI_sub sM (zC_I C)) (zC_st C) q_s84) gL_law_X8_boundFor (by decide +kernel) kM0 vc8 rfl rfl dL_law_420 rfl ⟨Nat.le_of_ble_eq_true rfl, Nat.le_of_ble_eq_true rfl⟩ rfl (Nat.le_of_ble_eq_true rfl) ?_
  rw [show zMix 27 zLM.length s80 s84 = s85 from e_s85.symm]
  refine z_istore (y := x83) (lv' := [(6, .int x83), (5, .int x79), (0, .ref b), (1, .ref (ad 0)), (2, .ref (ad 27)), (3, .ref (ad 46)), (4, .int v4)]) C dL_law_423 (by decide) rfl rfl ?_
  refine z_aload_n C dL_law_425 rfl 4 rfl ?_
  obtain ⟨x86, s87, q_s87, hm⟩ := zBd_of hm
  obtain ⟨s88, e_s88, hm⟩ := zLt_of hm
  refine z_dV (vd := false) (Cn := RX8) (k := 0) (o := 27) C 0 [] [] sM (c_X8_thrown (zI_sub sM (zC_I C)) (zC_st C) q_s87) gL_law_X8_thrown (by decide +kernel) kM0 vc8 rfl rfl dL_law_426 rfl ⟨Nat.le_of_ble_eq_true rfl, Nat.le_of_ble_eq_true rfl⟩ rfl (Nat.le_of_ble_eq_true rfl) ?_
  rw [show zMix 27 zLM.length s85 s87 = s88 from e_s88.symm]
  refine z_iload C dL_law_429 1 rfl ?_
  refine z_icmp_eq (tgt := 436) C dL_law_431 (by decide) (fun c89 => ?_) (fun c89 => ?_)
  · have hm := zIt hm c89
    refine z_iload C dL_law_436 1 rfl ?_
    refine z_if_ne (tgt := 453) C dL_law_438 (by decide) (fun c90 => ?_) (fun c90 => ?_)
    · have hm := zIf hm c90
      refine z_goto (tgt := 1247) C dL_law_453 (by decide) ?_
      obtain ⟨x91, e_x91, hm⟩ := zLt_of hm
      refine z_iinc (j := 6) (v := x91) (d := (5 : Int32)) (lv' := [(4, .int x91), (6, .int x83), (5, .int x79), (0, .ref b), (1, .ref (ad 0)), (2, .ref (ad 27)), (3, .ref (ad 46))]) C dL_law_1247 rfl (by decide) e_x91 (by decide) rfl ?_
      refine z_goto (tgt := 23) C dL_law_1250 (by decide) ?_
      exact z_sub [3, 4, 5, 6, 0] rfl (ih _ _ _ C X hQ (zBud_p hB) hm)
    · have hm := zIt hm c90
      refine z_aload_n C dL_law_441 rfl 5 rfl ?_
      refine z_iconst (v := (0 : Int32)) C dL_law_442 (by decide) ?_
      obtain ⟨x92, i_x92, e_x92, hm⟩ := zRd_of hm
      refine z_lald C kL46 i_x92 e_x92 dL_law_443 ?_
      refine z_iload C dL_law_444 0 rfl ?_
      refine z_i2l C dL_law_446 ?_
      refine z_lcmp C dL_law_447 ?_
      refine z_if_eq (tgt := 453) C dL_law_448 (by decide) (fun c93 => ?_) (fun c93 => ?_)
      · have hm := zIt hm c93
        refine z_goto (tgt := 1247) C dL_law_453 (by decide) ?_
        obtain ⟨x94, e_x94, hm⟩ := zLt_of hm
        refine z_iinc (j := 6) (v := x94) (d := (5 : Int32)) (lv' := [(4, .int x94), (6, .int x83), (5, .int x79), (0, .ref b), (1, .ref (ad 0)), (2, .ref (ad 27)), (3, .ref (ad 46))]) C dL_law_1247 rfl (by decide) e_x94 (by decide) rfl ?_
        refine z_goto (tgt := 23) C dL_law_1250 (by decide) ?_
        exact z_sub [3, 4, 5, 6, 0] rfl (ih _ _ _ C X hQ (zBud_p hB) hm)
      · have hm := zIf hm c93
        refine z_iconst (v := (0 : Int32)) C dL_law_451 (by decide) ?_
        exact absurd (Sum.inl.inj (zRt_of hm).1) (by decide)
  · have hm := zIf hm c89
    refine z_iconst (v := (0 : Int32)) C dL_law_434 (by decide) ?_
    exact absurd (Sum.inl.inj (zRt_of hm).1) (by decide)
set_option maxRecDepth 100000 in
set_option maxHeartbeats 4000000 in
theorem w_L_law_c5 {h : zH} {ad : Nat → Nat} {G : zG} {b N f n : Nat} {xs : Nat → Int32} {s9 : zS} {rec : Int32 → zS → Option (Int32 × zS)} {tb : List ExceptionTableEntry} (C : zCT tb h ad zLL 7 G cL_law RL wsL_law 12 428) (X : zScr ad zLL G b N xs) (hQ : zQl ad b G) (hB : zBud G (f + 1)) (ih : ∀ (G : zG) (v4 : Int32) (s : zS), zCT tb h ad zLL 7 G cL_law RL wsL_law 12 428 → zScr ad zLL G b N xs → zQl ad b G → zBud G f → rec v4 s = some (1, s9) → zV h ad zLL 7 G s 23 [(0, .ref b), (1, .ref (ad 0)), (2, .ref (ad 27)), (3, .ref (ad 46)), (4, .int v4)] []) {v4 : Int32} {s : zS} (hm : m_L_law_c5 rec n N xs v4 s = some (1, s9)) : zV h ad zLL 7 G s 456 [(0, .ref b), (1, .ref (ad 0)), (2, .ref (ad 27)), (3, .ref (ad 46)), (4, .int v4)] [] := by
  rw [m_L_law_c5] at hm
  refine z_aload_n C dL_law_456 rfl 1 rfl ?_
  refine z_aload_n C dL_law_457 rfl 0 rfl ?_
  refine z_iload C dL_law_458 4 rfl ?_
  refine z_iconst (v := (1 : Int32)) C dL_law_460 (by decide) ?_
  refine z_iadd C dL_law_461 ?_
  obtain ⟨x96, i_x96, e_x96, hm⟩ := zRd_of hm
  refine z_sld C X i_x96 e_x96 dL_law_462 ?_
  refine z_aload_n C dL_law_463 rfl 0 rfl ?_
  refine z_iload C dL_law_464 4 rfl ?_
  refine z_iconst (v := (2 : Int32)) C dL_law_466 (by decide) ?_
  refine z_iadd C dL_law_467 ?_
  obtain ⟨x97, i_x97, e_x97, hm⟩ := zRd_of hm
  refine z_sld C X i_x97 e_x97 dL_law_468 ?_
  refine z_aload_n C dL_law_469 rfl 3 rfl ?_
  obtain ⟨x98, s99, q_s99, hm⟩ := zBd_of hm
  refine z_lS C 4 [.ref (ad 0), .int x96, .int x97, .ref (ad 46)] [] (zBud_r hB) (c_L_dependsOn (zC_I C) (zC_st C) q_s99) gL_law_L_dependsOn (by decide +kernel) rfl dL_law_470 rfl ⟨Nat.le_of_ble_eq_true rfl, Nat.le_of_ble_eq_true rfl⟩ rfl (Nat.le_of_ble_eq_true rfl) ?_
  have C := zCT_p C (zBud_r hB)
  have X := zScr_p X
  have hQ := zQl_p hQ
  refine z_istore (y := x98) (lv' := [(5, .int x98), (0, .ref b), (1, .ref (ad 0)), (2, .ref (ad 27)), (3, .ref (ad 46)), (4, .int v4)]) C dL_law_473 (by decide) rfl rfl ?_
  refine z_aload_n C dL_law_475 rfl 3 rfl ?_
  refine z_aload_n C dL_law_476 rfl 1 rfl ?_
  refine z_iload C dL_law_477 5 rfl ?_
  refine z_iconst (v := (1 : Int32)) C dL_law_479 (by decide) ?_
  refine z_iadd C dL_law_480 ?_
  obtain ⟨x100, i_x100, e_x100, hm⟩ := zRd_of hm
  refine z_sld C X i_x100 e_x100 dL_law_481 ?_
  refine z_aload_n C dL_law_482 rfl 1 rfl ?_
  refine z_iload C dL_law_483 5 rfl ?_
  refine z_iconst (v := (2 : Int32)) C dL_law_485 (by decide) ?_
  refine z_iadd C dL_law_486 ?_
  obtain ⟨x101, i_x101, e_x101, hm⟩ := zRd_of hm
  refine z_sld C X i_x101 e_x101 dL_law_487 ?_
  obtain ⟨x102, s103, q_s103, hm⟩ := zBd_of hm
  obtain ⟨s104, e_s104, hm⟩ := zLt_of hm
  refine z_dV (vd := false) (Cn := RX8) (k := 0) (o := 27) C 2 [.int x100, .int x101] [] sM (c_X8_dependsOn (zI_sub sM (zC_I C)) (zC_st C) q_s103) gL_law_X8_dependsOn (by decide +kernel) kM0 vc8 rfl rfl dL_law_488 rfl ⟨Nat.le_of_ble_eq_true rfl, Nat.le_of_ble_eq_true rfl⟩ rfl (Nat.le_of_ble_eq_true rfl) ?_
  rw [show zMix 27 zLM.length s99 s103 = s104 from e_s104.symm]
  refine z_istore (y := x102) (lv' := [(6, .int x102), (5, .int x98), (0, .ref b), (1, .ref (ad 0)), (2, .ref (ad 27)), (3, .ref (ad 46)), (4, .int v4)]) C dL_law_491 (by decide) rfl rfl ?_
  refine z_aload_n C dL_law_493 rfl 4 rfl ?_
  obtain ⟨x105, s106, q_s106, hm⟩ := zBd_of hm
  obtain ⟨s107, e_s107, hm⟩ := zLt_of hm
  refine z_dV (vd := false) (Cn := RX8) (k := 0) (o := 27) C 0 [] [] sM (c_X8_thrown (zI_sub sM (zC_I C)) (zC_st C) q_s106) gL_law_X8_thrown (by decide +kernel) kM0 vc8 rfl rfl dL_law_494 rfl ⟨Nat.le_of_ble_eq_true rfl, Nat.le_of_ble_eq_true rfl⟩ rfl (Nat.le_of_ble_eq_true rfl) ?_
  rw [show zMix 27 zLM.length s104 s106 = s107 from e_s107.symm]
  refine z_iload C dL_law_497 1 rfl ?_
  refine z_icmp_eq (tgt := 504) C dL_law_499 (by decide) (fun c108 => ?_) (fun c108 => ?_)
  · have hm := zIt hm c108
    refine z_iload C dL_law_504 1 rfl ?_
    refine z_if_ne (tgt := 528) C dL_law_506 (by decide) (fun c109 => ?_) (fun c109 => ?_)
    · have hm := zIf hm c109
      refine z_goto (tgt := 1247) C dL_law_528 (by decide) ?_
      obtain ⟨x110, e_x110, hm⟩ := zLt_of hm
      refine z_iinc (j := 6) (v := x110) (d := (5 : Int32)) (lv' := [(4, .int x110), (6, .int x102), (5, .int x98), (0, .ref b), (1, .ref (ad 0)), (2, .ref (ad 27)), (3, .ref (ad 46))]) C dL_law_1247 rfl (by decide) e_x110 (by decide) rfl ?_
      refine z_goto (tgt := 23) C dL_law_1250 (by decide) ?_
      exact z_sub [3, 4, 5, 6, 0] rfl (ih _ _ _ C X hQ (zBud_p hB) hm)
    · have hm := zIt hm c109
      refine z_aload_n C dL_law_509 rfl 5 rfl ?_
      refine z_iconst (v := (0 : Int32)) C dL_law_510 (by decide) ?_
      obtain ⟨x111, i_x111, e_x111, hm⟩ := zRd_of hm
      refine z_lald C kL46 i_x111 e_x111 dL_law_511 ?_
      refine z_iload C dL_law_512 0 rfl ?_
      refine z_if_eq (tgt := 521) C dL_law_514 (by decide) (fun c112 => ?_) (fun c112 => ?_)
      · have hm := zIt hm c112
        refine z_lconst (v := (0 : Int64)) C dL_law_521 (by decide) ?_
        refine z_lcmp C dL_law_522 ?_
        refine z_if_eq (tgt := 528) C dL_law_523 (by decide) (fun c113 => ?_) (fun c113 => ?_)
        · have hm := zIt hm c113
          refine z_goto (tgt := 1247) C dL_law_528 (by decide) ?_
          obtain ⟨x114, e_x114, hm⟩ := zLt_of hm
          refine z_iinc (j := 6) (v := x114) (d := (5 : Int32)) (lv' := [(4, .int x114), (6, .int x102), (5, .int x98), (0, .ref b), (1, .ref (ad 0)), (2, .ref (ad 27)), (3, .ref (ad 46))]) C dL_law_1247 rfl (by decide) e_x114 (by decide) rfl ?_
          refine z_goto (tgt := 23) C dL_law_1250 (by decide) ?_
          exact z_sub [3, 4, 5, 6, 0] rfl (ih _ _ _ C X hQ (zBud_p hB) hm)
        · have hm := zIf hm c113
          refine z_iconst (v := (0 : Int32)) C dL_law_526 (by decide) ?_
          exact absurd (Sum.inl.inj (zRt_of hm).1) (by decide)
      · have hm := zIf hm c112
        refine z_lconst (v := (1 : Int64)) C dL_law_517 (by decide) ?_
        refine z_goto (tgt := 522) C dL_law_518 (by decide) ?_
        refine z_lcmp C dL_law_522 ?_
        refine z_if_eq (tgt := 528) C dL_law_523 (by decide) (fun c115 => ?_) (fun c115 => ?_)
        · have hm := zIt hm c115
          refine z_goto (tgt := 1247) C dL_law_528 (by decide) ?_
          obtain ⟨x116, e_x116, hm⟩ := zLt_of hm
          refine z_iinc (j := 6) (v := x116) (d := (5 : Int32)) (lv' := [(4, .int x116), (6, .int x102), (5, .int x98), (0, .ref b), (1, .ref (ad 0)), (2, .ref (ad 27)), (3, .ref (ad 46))]) C dL_law_1247 rfl (by decide) e_x116 (by decide) rfl ?_
          refine z_goto (tgt := 23) C dL_law_1250 (by decide) ?_
          exact z_sub [3, 4, 5, 6, 0] rfl (ih _ _ _ C X hQ (zBud_p hB) hm)
        · have hm := zIf hm c115
          refine z_iconst (v := (0 : Int32)) C dL_law_526 (by decide) ?_
          exact absurd (Sum.inl.inj (zRt_of hm).1) (by decide)
  · have hm := zIf hm c108
    refine z_iconst (v := (0 : Int32)) C dL_law_502 (by decide) ?_
    exact absurd (Sum.inl.inj (zRt_of hm).1) (by decide)
set_option maxRecDepth 100000 in
set_option maxHeartbeats 4000000 in
theorem w_L_law_c6 {h : zH} {ad : Nat → Nat} {G : zG} {b N f n : Nat} {xs : Nat → Int32} {s9 : zS} {rec : Int32 → zS → Option (Int32 × zS)} {tb : List ExceptionTableEntry} (C : zCT tb h ad zLL 7 G cL_law RL wsL_law 12 428) (X : zScr ad zLL G b N xs) (hQ : zQl ad b G) (hB : zBud G (f + 1)) (ih : ∀ (G : zG) (v4 : Int32) (s : zS), zCT tb h ad zLL 7 G cL_law RL wsL_law 12 428 → zScr ad zLL G b N xs → zQl ad b G → zBud G f → rec v4 s = some (1, s9) → zV h ad zLL 7 G s 23 [(0, .ref b), (1, .ref (ad 0)), (2, .ref (ad 27)), (3, .ref (ad 46)), (4, .int v4)] []) {v4 : Int32} {s : zS} (hm : m_L_law_c6 rec n N xs v4 s = some (1, s9)) : zV h ad zLL 7 G s 531 [(0, .ref b), (1, .ref (ad 0)), (2, .ref (ad 27)), (3, .ref (ad 46)), (4, .int v4)] [] := by
  rw [m_L_law_c6] at hm
  refine z_aload_n C dL_law_531 rfl 1 rfl ?_
  refine z_aload_n C dL_law_532 rfl 0 rfl ?_
  refine z_iload C dL_law_533 4 rfl ?_
  refine z_iconst (v := (1 : Int32)) C dL_law_535 (by decide) ?_
  refine z_iadd C dL_law_536 ?_
  obtain ⟨x118, i_x118, e_x118, hm⟩ := zRd_of hm
  refine z_sld C X i_x118 e_x118 dL_law_537 ?_
  refine z_aload_n C dL_law_538 rfl 3 rfl ?_
  obtain ⟨x119, s120, q_s120, hm⟩ := zBd_of hm
  refine z_lS C 3 [.ref (ad 0), .int x118, .ref (ad 46)] [] (zBud_r hB) (c_L_influence (zC_I C) (zC_st C) q_s120) gL_law_L_influence (by decide +kernel) rfl dL_law_539 rfl ⟨Nat.le_of_ble_eq_true rfl, Nat.le_of_ble_eq_true rfl⟩ rfl (Nat.le_of_ble_eq_true rfl) ?_
  have C := zCT_p C (zBud_r hB)
  have X := zScr_p X
  have hQ := zQl_p hQ
  refine z_istore (y := x119) (lv' := [(5, .int x119), (0, .ref b), (1, .ref (ad 0)), (2, .ref (ad 27)), (3, .ref (ad 46)), (4, .int v4)]) C dL_law_542 (by decide) rfl rfl ?_
  refine z_aload_n C dL_law_544 rfl 3 rfl ?_
  refine z_aload_n C dL_law_545 rfl 1 rfl ?_
  refine z_iload C dL_law_546 5 rfl ?_
  refine z_iconst (v := (1 : Int32)) C dL_law_548 (by decide) ?_
  refine z_iadd C dL_law_549 ?_
  obtain ⟨x121, i_x121, e_x121, hm⟩ := zRd_of hm
  refine z_sld C X i_x121 e_x121 dL_law_550 ?_
  obtain ⟨x122, s123, q_s123, hm⟩ := zBd_of hm
  obtain ⟨s124, e_s124, hm⟩ := zLt_of hm
  refine z_dV (vd := false) (Cn := RX8) (k := 0) (o := 27) C 1 [.int x121] [] sM (c_X8_influence (zI_sub sM (zC_I C)) (zC_st C) q_s123) gL_law_X8_influence (by decide +kernel) kM0 vc8 rfl rfl dL_law_551 rfl ⟨Nat.le_of_ble_eq_true rfl, Nat.le_of_ble_eq_true rfl⟩ rfl (Nat.le_of_ble_eq_true rfl) ?_
  rw [show zMix 27 zLM.length s120 s123 = s124 from e_s124.symm]
  refine z_istore (y := x122) (lv' := [(6, .int x122), (5, .int x119), (0, .ref b), (1, .ref (ad 0)), (2, .ref (ad 27)), (3, .ref (ad 46)), (4, .int v4)]) C dL_law_554 (by decide) rfl rfl ?_
  refine z_aload_n C dL_law_556 rfl 4 rfl ?_
  obtain ⟨x125, s126, q_s126, hm⟩ := zBd_of hm
  obtain ⟨s127, e_s127, hm⟩ := zLt_of hm
  refine z_dV (vd := false) (Cn := RX8) (k := 0) (o := 27) C 0 [] [] sM (c_X8_thrown (zI_sub sM (zC_I C)) (zC_st C) q_s126) gL_law_X8_thrown (by decide +kernel) kM0 vc8 rfl rfl dL_law_557 rfl ⟨Nat.le_of_ble_eq_true rfl, Nat.le_of_ble_eq_true rfl⟩ rfl (Nat.le_of_ble_eq_true rfl) ?_
  rw [show zMix 27 zLM.length s124 s126 = s127 from e_s127.symm]
  refine z_iload C dL_law_560 1 rfl ?_
  refine z_icmp_eq (tgt := 567) C dL_law_562 (by decide) (fun c128 => ?_) (fun c128 => ?_)
  · have hm := zIt hm c128
    refine z_iload C dL_law_567 1 rfl ?_
    refine z_if_ne (tgt := 584) C dL_law_569 (by decide) (fun c129 => ?_) (fun c129 => ?_)
    · have hm := zIf hm c129
      refine z_goto (tgt := 1247) C dL_law_584 (by decide) ?_
      obtain ⟨x130, e_x130, hm⟩ := zLt_of hm
      refine z_iinc (j := 6) (v := x130) (d := (5 : Int32)) (lv' := [(4, .int x130), (6, .int x122), (5, .int x119), (0, .ref b), (1, .ref (ad 0)), (2, .ref (ad 27)), (3, .ref (ad 46))]) C dL_law_1247 rfl (by decide) e_x130 (by decide) rfl ?_
      refine z_goto (tgt := 23) C dL_law_1250 (by decide) ?_
      exact z_sub [3, 4, 5, 6, 0] rfl (ih _ _ _ C X hQ (zBud_p hB) hm)
    · have hm := zIt hm c129
      refine z_aload_n C dL_law_572 rfl 5 rfl ?_
      refine z_iconst (v := (0 : Int32)) C dL_law_573 (by decide) ?_
      obtain ⟨x131, i_x131, e_x131, hm⟩ := zRd_of hm
      refine z_lald C kL46 i_x131 e_x131 dL_law_574 ?_
      refine z_iload C dL_law_575 0 rfl ?_
      refine z_i2l C dL_law_577 ?_
      refine z_lcmp C dL_law_578 ?_
      refine z_if_eq (tgt := 584) C dL_law_579 (by decide) (fun c132 => ?_) (fun c132 => ?_)
      · have hm := zIt hm c132
        refine z_goto (tgt := 1247) C dL_law_584 (by decide) ?_
        obtain ⟨x133, e_x133, hm⟩ := zLt_of hm
        refine z_iinc (j := 6) (v := x133) (d := (5 : Int32)) (lv' := [(4, .int x133), (6, .int x122), (5, .int x119), (0, .ref b), (1, .ref (ad 0)), (2, .ref (ad 27)), (3, .ref (ad 46))]) C dL_law_1247 rfl (by decide) e_x133 (by decide) rfl ?_
        refine z_goto (tgt := 23) C dL_law_1250 (by decide) ?_
        exact z_sub [3, 4, 5, 6, 0] rfl (ih _ _ _ C X hQ (zBud_p hB) hm)
      · have hm := zIf hm c132
        refine z_iconst (v := (0 : Int32)) C dL_law_582 (by decide) ?_
        exact absurd (Sum.inl.inj (zRt_of hm).1) (by decide)
  · have hm := zIf hm c128
    refine z_iconst (v := (0 : Int32)) C dL_law_565 (by decide) ?_
    exact absurd (Sum.inl.inj (zRt_of hm).1) (by decide)
set_option maxRecDepth 100000 in
set_option maxHeartbeats 4000000 in
theorem w_L_law_c7 {h : zH} {ad : Nat → Nat} {G : zG} {b N f n : Nat} {xs : Nat → Int32} {s9 : zS} {rec : Int32 → zS → Option (Int32 × zS)} {tb : List ExceptionTableEntry} (C : zCT tb h ad zLL 7 G cL_law RL wsL_law 12 428) (X : zScr ad zLL G b N xs) (hQ : zQl ad b G) (hB : zBud G (f + 1)) (ih : ∀ (G : zG) (v4 : Int32) (s : zS), zCT tb h ad zLL 7 G cL_law RL wsL_law 12 428 → zScr ad zLL G b N xs → zQl ad b G → zBud G f → rec v4 s = some (1, s9) → zV h ad zLL 7 G s 23 [(0, .ref b), (1, .ref (ad 0)), (2, .ref (ad 27)), (3, .ref (ad 46)), (4, .int v4)] []) {v4 : Int32} {s : zS} (hm : m_L_law_c7 rec n N xs v4 s = some (1, s9)) : zV h ad zLL 7 G s 587 [(0, .ref b), (1, .ref (ad 0)), (2, .ref (ad 27)), (3, .ref (ad 46)), (4, .int v4)] [] := by
  rw [m_L_law_c7] at hm
  refine z_aload_n C dL_law_587 rfl 1 rfl ?_
  refine z_aload_n C dL_law_588 rfl 0 rfl ?_
  refine z_iload C dL_law_589 4 rfl ?_
  refine z_iconst (v := (1 : Int32)) C dL_law_591 (by decide) ?_
  refine z_iadd C dL_law_592 ?_
  obtain ⟨x135, i_x135, e_x135, hm⟩ := zRd_of hm
  refine z_sld C X i_x135 e_x135 dL_law_593 ?_
  refine z_aload_n C dL_law_594 rfl 0 rfl ?_
  refine z_iload C dL_law_595 4 rfl ?_
  refine z_iconst (v := (2 : Int32)) C dL_law_597 (by decide) ?_
  refine z_iadd C dL_law_598 ?_
  obtain ⟨x136, i_x136, e_x136, hm⟩ := zRd_of hm
  refine z_sld C X i_x136 e_x136 dL_law_599 ?_
  refine z_aload_n C dL_law_600 rfl 3 rfl ?_
  obtain ⟨x137, s138, q_s138, hm⟩ := zBd_of hm
  refine z_lS C 4 [.ref (ad 0), .int x135, .int x136, .ref (ad 46)] [] (zBud_r hB) (c_L_why (zC_I C) (zC_st C) q_s138) gL_law_L_why (by decide +kernel) rfl dL_law_601 rfl ⟨Nat.le_of_ble_eq_true rfl, Nat.le_of_ble_eq_true rfl⟩ rfl (Nat.le_of_ble_eq_true rfl) ?_
  have C := zCT_p C (zBud_r hB)
  have X := zScr_p X
  have hQ := zQl_p hQ
  refine z_istore (y := x137) (lv' := [(5, .int x137), (0, .ref b), (1, .ref (ad 0)), (2, .ref (ad 27)), (3, .ref (ad 46)), (4, .int v4)]) C dL_law_604 (by decide) rfl rfl ?_
  refine z_aload_n C dL_law_606 rfl 3 rfl ?_
  refine z_aload_n C dL_law_607 rfl 1 rfl ?_
  refine z_iload C dL_law_608 5 rfl ?_
  refine z_iconst (v := (1 : Int32)) C dL_law_610 (by decide) ?_
  refine z_iadd C dL_law_611 ?_
  obtain ⟨x139, i_x139, e_x139, hm⟩ := zRd_of hm
  refine z_sld C X i_x139 e_x139 dL_law_612 ?_
  refine z_aload_n C dL_law_613 rfl 1 rfl ?_
  refine z_iload C dL_law_614 5 rfl ?_
  refine z_iconst (v := (2 : Int32)) C dL_law_616 (by decide) ?_
  refine z_iadd C dL_law_617 ?_
  obtain ⟨x140, i_x140, e_x140, hm⟩ := zRd_of hm
  refine z_sld C X i_x140 e_x140 dL_law_618 ?_
  obtain ⟨x141, s142, q_s142, hm⟩ := zBd_of hm
  obtain ⟨s143, e_s143, hm⟩ := zLt_of hm
  refine z_dV (vd := false) (Cn := RX8) (k := 0) (o := 27) C 2 [.int x139, .int x140] [] sM (c_X8_why (zI_sub sM (zC_I C)) (zC_st C) q_s142) gL_law_X8_why (by decide +kernel) kM0 vc8 rfl rfl dL_law_619 rfl ⟨Nat.le_of_ble_eq_true rfl, Nat.le_of_ble_eq_true rfl⟩ rfl (Nat.le_of_ble_eq_true rfl) ?_
  rw [show zMix 27 zLM.length s138 s142 = s143 from e_s143.symm]
  refine z_istore (y := x141) (lv' := [(6, .int x141), (5, .int x137), (0, .ref b), (1, .ref (ad 0)), (2, .ref (ad 27)), (3, .ref (ad 46)), (4, .int v4)]) C dL_law_622 (by decide) rfl rfl ?_
  refine z_aload_n C dL_law_624 rfl 4 rfl ?_
  obtain ⟨x144, s145, q_s145, hm⟩ := zBd_of hm
  obtain ⟨s146, e_s146, hm⟩ := zLt_of hm
  refine z_dV (vd := false) (Cn := RX8) (k := 0) (o := 27) C 0 [] [] sM (c_X8_thrown (zI_sub sM (zC_I C)) (zC_st C) q_s145) gL_law_X8_thrown (by decide +kernel) kM0 vc8 rfl rfl dL_law_625 rfl ⟨Nat.le_of_ble_eq_true rfl, Nat.le_of_ble_eq_true rfl⟩ rfl (Nat.le_of_ble_eq_true rfl) ?_
  rw [show zMix 27 zLM.length s143 s145 = s146 from e_s146.symm]
  refine z_iload C dL_law_628 1 rfl ?_
  refine z_icmp_eq (tgt := 635) C dL_law_630 (by decide) (fun c147 => ?_) (fun c147 => ?_)
  · have hm := zIt hm c147
    refine z_iload C dL_law_635 1 rfl ?_
    refine z_if_ne (tgt := 652) C dL_law_637 (by decide) (fun c148 => ?_) (fun c148 => ?_)
    · have hm := zIf hm c148
      refine z_goto (tgt := 1247) C dL_law_652 (by decide) ?_
      obtain ⟨x149, e_x149, hm⟩ := zLt_of hm
      refine z_iinc (j := 6) (v := x149) (d := (5 : Int32)) (lv' := [(4, .int x149), (6, .int x141), (5, .int x137), (0, .ref b), (1, .ref (ad 0)), (2, .ref (ad 27)), (3, .ref (ad 46))]) C dL_law_1247 rfl (by decide) e_x149 (by decide) rfl ?_
      refine z_goto (tgt := 23) C dL_law_1250 (by decide) ?_
      exact z_sub [3, 4, 5, 6, 0] rfl (ih _ _ _ C X hQ (zBud_p hB) hm)
    · have hm := zIt hm c148
      refine z_aload_n C dL_law_640 rfl 5 rfl ?_
      refine z_iconst (v := (0 : Int32)) C dL_law_641 (by decide) ?_
      obtain ⟨x150, i_x150, e_x150, hm⟩ := zRd_of hm
      refine z_lald C kL46 i_x150 e_x150 dL_law_642 ?_
      refine z_iload C dL_law_643 0 rfl ?_
      refine z_i2l C dL_law_645 ?_
      refine z_lcmp C dL_law_646 ?_
      refine z_if_eq (tgt := 652) C dL_law_647 (by decide) (fun c151 => ?_) (fun c151 => ?_)
      · have hm := zIt hm c151
        refine z_goto (tgt := 1247) C dL_law_652 (by decide) ?_
        obtain ⟨x152, e_x152, hm⟩ := zLt_of hm
        refine z_iinc (j := 6) (v := x152) (d := (5 : Int32)) (lv' := [(4, .int x152), (6, .int x141), (5, .int x137), (0, .ref b), (1, .ref (ad 0)), (2, .ref (ad 27)), (3, .ref (ad 46))]) C dL_law_1247 rfl (by decide) e_x152 (by decide) rfl ?_
        refine z_goto (tgt := 23) C dL_law_1250 (by decide) ?_
        exact z_sub [3, 4, 5, 6, 0] rfl (ih _ _ _ C X hQ (zBud_p hB) hm)
      · have hm := zIf hm c151
        refine z_iconst (v := (0 : Int32)) C dL_law_650 (by decide) ?_
        exact absurd (Sum.inl.inj (zRt_of hm).1) (by decide)
  · have hm := zIf hm c147
    refine z_iconst (v := (0 : Int32)) C dL_law_633 (by decide) ?_
    exact absurd (Sum.inl.inj (zRt_of hm).1) (by decide)
set_option maxRecDepth 100000 in
set_option maxHeartbeats 4000000 in
theorem w_L_law_c8 {h : zH} {ad : Nat → Nat} {G : zG} {b N f n : Nat} {xs : Nat → Int32} {s9 : zS} {rec : Int32 → zS → Option (Int32 × zS)} {tb : List ExceptionTableEntry} (C : zCT tb h ad zLL 7 G cL_law RL wsL_law 12 428) (X : zScr ad zLL G b N xs) (hQ : zQl ad b G) (hB : zBud G (f + 1)) (ih : ∀ (G : zG) (v4 : Int32) (s : zS), zCT tb h ad zLL 7 G cL_law RL wsL_law 12 428 → zScr ad zLL G b N xs → zQl ad b G → zBud G f → rec v4 s = some (1, s9) → zV h ad zLL 7 G s 23 [(0, .ref b), (1, .ref (ad 0)), (2, .ref (ad 27)), (3, .ref (ad 46)), (4, .int v4)] []) {v4 : Int32} {s : zS} (hm : m_L_law_c8 rec n N xs v4 s = some (1, s9)) : zV h ad zLL 7 G s 655 [(0, .ref b), (1, .ref (ad 0)), (2, .ref (ad 27)), (3, .ref (ad 46)), (4, .int v4)] [] := by
  rw [m_L_law_c8] at hm
  refine z_aload_n C dL_law_655 rfl 1 rfl ?_
  refine z_aload_n C dL_law_656 rfl 0 rfl ?_
  refine z_iload C dL_law_657 4 rfl ?_
  refine z_iconst (v := (1 : Int32)) C dL_law_659 (by decide) ?_
  refine z_iadd C dL_law_660 ?_
  obtain ⟨x154, i_x154, e_x154, hm⟩ := zRd_of hm
  refine z_sld C X i_x154 e_x154 dL_law_661 ?_
  refine z_aload_n C dL_law_662 rfl 0 rfl ?_
  refine z_iload C dL_law_663 4 rfl ?_
  refine z_iconst (v := (2 : Int32)) C dL_law_665 (by decide) ?_
  refine z_iadd C dL_law_666 ?_
  obtain ⟨x155, i_x155, e_x155, hm⟩ := zRd_of hm
  refine z_sld C X i_x155 e_x155 dL_law_667 ?_
  refine z_aload_n C dL_law_668 rfl 3 rfl ?_
  obtain ⟨x156, s157, q_s157, hm⟩ := zBd_of hm
  refine z_lS C 4 [.ref (ad 0), .int x154, .int x155, .ref (ad 46)] [] (zBud_r hB) (c_L_bracket (zC_I C) (zC_st C) q_s157) gL_law_L_bracket (by decide +kernel) rfl dL_law_669 rfl ⟨Nat.le_of_ble_eq_true rfl, Nat.le_of_ble_eq_true rfl⟩ rfl (Nat.le_of_ble_eq_true rfl) ?_
  have C := zCT_p C (zBud_r hB)
  have X := zScr_p X
  have hQ := zQl_p hQ
  refine z_istore (y := x156) (lv' := [(5, .int x156), (0, .ref b), (1, .ref (ad 0)), (2, .ref (ad 27)), (3, .ref (ad 46)), (4, .int v4)]) C dL_law_672 (by decide) rfl rfl ?_
  refine z_aload_n C dL_law_674 rfl 3 rfl ?_
  refine z_aload_n C dL_law_675 rfl 1 rfl ?_
  refine z_iload C dL_law_676 5 rfl ?_
  refine z_iconst (v := (1 : Int32)) C dL_law_678 (by decide) ?_
  refine z_iadd C dL_law_679 ?_
  obtain ⟨x158, i_x158, e_x158, hm⟩ := zRd_of hm
  refine z_sld C X i_x158 e_x158 dL_law_680 ?_
  refine z_aload_n C dL_law_681 rfl 1 rfl ?_
  refine z_iload C dL_law_682 5 rfl ?_
  refine z_iconst (v := (2 : Int32)) C dL_law_684 (by decide) ?_
  refine z_iadd C dL_law_685 ?_
  obtain ⟨x159, i_x159, e_x159, hm⟩ := zRd_of hm
  refine z_sld C X i_x159 e_x159 dL_law_686 ?_
  obtain ⟨x160, s161, q_s161, hm⟩ := zBd_of hm
  obtain ⟨s162, e_s162, hm⟩ := zLt_of hm
  refine z_dV (vd := false) (Cn := RX8) (k := 0) (o := 27) C 2 [.int x158, .int x159] [] sM (c_X8_bracket (zI_sub sM (zC_I C)) (zC_st C) q_s161) gL_law_X8_bracket (by decide +kernel) kM0 vc8 rfl rfl dL_law_687 rfl ⟨Nat.le_of_ble_eq_true rfl, Nat.le_of_ble_eq_true rfl⟩ rfl (Nat.le_of_ble_eq_true rfl) ?_
  rw [show zMix 27 zLM.length s157 s161 = s162 from e_s162.symm]
  refine z_istore (y := x160) (lv' := [(6, .int x160), (5, .int x156), (0, .ref b), (1, .ref (ad 0)), (2, .ref (ad 27)), (3, .ref (ad 46)), (4, .int v4)]) C dL_law_690 (by decide) rfl rfl ?_
  refine z_aload_n C dL_law_692 rfl 4 rfl ?_
  obtain ⟨x163, s164, q_s164, hm⟩ := zBd_of hm
  obtain ⟨s165, e_s165, hm⟩ := zLt_of hm
  refine z_dV (vd := false) (Cn := RX8) (k := 0) (o := 27) C 0 [] [] sM (c_X8_thrown (zI_sub sM (zC_I C)) (zC_st C) q_s164) gL_law_X8_thrown (by decide +kernel) kM0 vc8 rfl rfl dL_law_693 rfl ⟨Nat.le_of_ble_eq_true rfl, Nat.le_of_ble_eq_true rfl⟩ rfl (Nat.le_of_ble_eq_true rfl) ?_
  rw [show zMix 27 zLM.length s162 s164 = s165 from e_s165.symm]
  refine z_iload C dL_law_696 1 rfl ?_
  refine z_icmp_eq (tgt := 703) C dL_law_698 (by decide) (fun c166 => ?_) (fun c166 => ?_)
  · have hm := zIt hm c166
    refine z_iload C dL_law_703 1 rfl ?_
    refine z_if_ne (tgt := 720) C dL_law_705 (by decide) (fun c167 => ?_) (fun c167 => ?_)
    · have hm := zIf hm c167
      refine z_goto (tgt := 1247) C dL_law_720 (by decide) ?_
      obtain ⟨x168, e_x168, hm⟩ := zLt_of hm
      refine z_iinc (j := 6) (v := x168) (d := (5 : Int32)) (lv' := [(4, .int x168), (6, .int x160), (5, .int x156), (0, .ref b), (1, .ref (ad 0)), (2, .ref (ad 27)), (3, .ref (ad 46))]) C dL_law_1247 rfl (by decide) e_x168 (by decide) rfl ?_
      refine z_goto (tgt := 23) C dL_law_1250 (by decide) ?_
      exact z_sub [3, 4, 5, 6, 0] rfl (ih _ _ _ C X hQ (zBud_p hB) hm)
    · have hm := zIt hm c167
      refine z_aload_n C dL_law_708 rfl 5 rfl ?_
      refine z_iconst (v := (0 : Int32)) C dL_law_709 (by decide) ?_
      obtain ⟨x169, i_x169, e_x169, hm⟩ := zRd_of hm
      refine z_lald C kL46 i_x169 e_x169 dL_law_710 ?_
      refine z_iload C dL_law_711 0 rfl ?_
      refine z_i2l C dL_law_713 ?_
      refine z_lcmp C dL_law_714 ?_
      refine z_if_eq (tgt := 720) C dL_law_715 (by decide) (fun c170 => ?_) (fun c170 => ?_)
      · have hm := zIt hm c170
        refine z_goto (tgt := 1247) C dL_law_720 (by decide) ?_
        obtain ⟨x171, e_x171, hm⟩ := zLt_of hm
        refine z_iinc (j := 6) (v := x171) (d := (5 : Int32)) (lv' := [(4, .int x171), (6, .int x160), (5, .int x156), (0, .ref b), (1, .ref (ad 0)), (2, .ref (ad 27)), (3, .ref (ad 46))]) C dL_law_1247 rfl (by decide) e_x171 (by decide) rfl ?_
        refine z_goto (tgt := 23) C dL_law_1250 (by decide) ?_
        exact z_sub [3, 4, 5, 6, 0] rfl (ih _ _ _ C X hQ (zBud_p hB) hm)
      · have hm := zIf hm c170
        refine z_iconst (v := (0 : Int32)) C dL_law_718 (by decide) ?_
        exact absurd (Sum.inl.inj (zRt_of hm).1) (by decide)
  · have hm := zIf hm c166
    refine z_iconst (v := (0 : Int32)) C dL_law_701 (by decide) ?_
    exact absurd (Sum.inl.inj (zRt_of hm).1) (by decide)
set_option maxRecDepth 100000 in
set_option maxHeartbeats 4000000 in
theorem w_L_law_c9 {h : zH} {ad : Nat → Nat} {G : zG} {b N f n : Nat} {xs : Nat → Int32} {s9 : zS} {rec : Int32 → zS → Option (Int32 × zS)} {tb : List ExceptionTableEntry} (C : zCT tb h ad zLL 7 G cL_law RL wsL_law 12 428) (X : zScr ad zLL G b N xs) (hQ : zQl ad b G) (hB : zBud G (f + 1)) (ih : ∀ (G : zG) (v4 : Int32) (s : zS), zCT tb h ad zLL 7 G cL_law RL wsL_law 12 428 → zScr ad zLL G b N xs → zQl ad b G → zBud G f → rec v4 s = some (1, s9) → zV h ad zLL 7 G s 23 [(0, .ref b), (1, .ref (ad 0)), (2, .ref (ad 27)), (3, .ref (ad 46)), (4, .int v4)] []) {v4 : Int32} {s : zS} (hm : m_L_law_c9 rec n N xs v4 s = some (1, s9)) : zV h ad zLL 7 G s 723 [(0, .ref b), (1, .ref (ad 0)), (2, .ref (ad 27)), (3, .ref (ad 46)), (4, .int v4)] [] := by
  rw [m_L_law_c9] at hm
  refine z_aload_n C dL_law_723 rfl 1 rfl ?_
  obtain ⟨x173, s174, q_s174, hm⟩ := zBd_of hm
  obtain ⟨s175, e_s175, hm⟩ := zLt_of hm
  refine z_dV (vd := false) (Cn := RX7) (k := 0) (o := 0) C 0 [] [] sX (c_X7_dropBrackets (zI_sub sX (zC_I C)) (zC_st C) q_s174) gL_law_X7_dropBrackets (by decide +kernel) kX0 vc7 rfl rfl dL_law_724 rfl ⟨Nat.le_of_ble_eq_true rfl, Nat.le_of_ble_eq_true rfl⟩ rfl (Nat.le_of_ble_eq_true rfl) ?_
  rw [show zMix 0 zLX.length s s174 = s175 from e_s175.symm]
  refine z_aload_n C dL_law_727 rfl 2 rfl ?_
  obtain ⟨x176, s177, q_s177, hm⟩ := zBd_of hm
  obtain ⟨s178, e_s178, hm⟩ := zLt_of hm
  refine z_dV (vd := false) (Cn := RX8) (k := 0) (o := 27) C 0 [] [.int x173] sM (c_X8_dropBrackets (zI_sub sM (zC_I C)) (zC_st C) q_s177) gL_law_X8_dropBrackets (by decide +kernel) kM0 vc8 rfl rfl dL_law_728 rfl ⟨Nat.le_of_ble_eq_true rfl, Nat.le_of_ble_eq_true rfl⟩ rfl (Nat.le_of_ble_eq_true rfl) ?_
  rw [show zMix 27 zLM.length s175 s177 = s178 from e_s178.symm]
  refine z_icmp_eq (tgt := 1247) C dL_law_731 (by decide) (fun c179 => ?_) (fun c179 => ?_)
  · have hm := zIt hm c179
    obtain ⟨x180, e_x180, hm⟩ := zLt_of hm
    refine z_iinc (j := 4) (v := x180) (d := (5 : Int32)) (lv' := [(4, .int x180), (0, .ref b), (1, .ref (ad 0)), (2, .ref (ad 27)), (3, .ref (ad 46))]) C dL_law_1247 rfl (by decide) e_x180 (by decide) rfl ?_
    refine z_goto (tgt := 23) C dL_law_1250 (by decide) ?_
    exact z_sub [1, 2, 3, 4, 0] rfl (ih _ _ _ C X hQ (zBud_s hB) hm)
  · have hm := zIf hm c179
    refine z_iconst (v := (0 : Int32)) C dL_law_734 (by decide) ?_
    exact absurd (Sum.inl.inj (zRt_of hm).1) (by decide)
set_option maxRecDepth 100000 in
set_option maxHeartbeats 4000000 in
theorem w_L_law_c10 {h : zH} {ad : Nat → Nat} {G : zG} {b N f n : Nat} {xs : Nat → Int32} {s9 : zS} {rec : Int32 → zS → Option (Int32 × zS)} {tb : List ExceptionTableEntry} (C : zCT tb h ad zLL 7 G cL_law RL wsL_law 12 428) (X : zScr ad zLL G b N xs) (hQ : zQl ad b G) (hB : zBud G (f + 1)) (ih : ∀ (G : zG) (v4 : Int32) (s : zS), zCT tb h ad zLL 7 G cL_law RL wsL_law 12 428 → zScr ad zLL G b N xs → zQl ad b G → zBud G f → rec v4 s = some (1, s9) → zV h ad zLL 7 G s 23 [(0, .ref b), (1, .ref (ad 0)), (2, .ref (ad 27)), (3, .ref (ad 46)), (4, .int v4)] []) {v4 : Int32} {s : zS} (hm : m_L_law_c10 rec n N xs v4 s = some (1, s9)) : zV h ad zLL 7 G s 736 [(0, .ref b), (1, .ref (ad 0)), (2, .ref (ad 27)), (3, .ref (ad 46)), (4, .int v4)] [] := by
  rw [m_L_law_c10] at hm
  refine z_aload_n C dL_law_736 rfl 1 rfl ?_
  refine z_aload_n C dL_law_737 rfl 0 rfl ?_
  refine z_iload C dL_law_738 4 rfl ?_
  refine z_iconst (v := (1 : Int32)) C dL_law_740 (by decide) ?_
  refine z_iadd C dL_law_741 ?_
  obtain ⟨x182, i_x182, e_x182, hm⟩ := zRd_of hm
  refine z_sld C X i_x182 e_x182 dL_law_742 ?_
  refine z_aload_n C dL_law_743 rfl 3 rfl ?_
  obtain ⟨x183, s184, q_s184, hm⟩ := zBd_of hm
  refine z_lS C 3 [.ref (ad 0), .int x182, .ref (ad 46)] [] (zBud_r hB) (c_L_taxOn (zC_I C) (zC_st C) q_s184) gL_law_L_taxOn (by decide +kernel) rfl dL_law_744 rfl ⟨Nat.le_of_ble_eq_true rfl, Nat.le_of_ble_eq_true rfl⟩ rfl (Nat.le_of_ble_eq_true rfl) ?_
  have C := zCT_p C (zBud_r hB)
  have X := zScr_p X
  have hQ := zQl_p hQ
  refine z_istore (y := x183) (lv' := [(5, .int x183), (0, .ref b), (1, .ref (ad 0)), (2, .ref (ad 27)), (3, .ref (ad 46)), (4, .int v4)]) C dL_law_747 (by decide) rfl rfl ?_
  refine z_aload_n C dL_law_749 rfl 3 rfl ?_
  refine z_aload_n C dL_law_750 rfl 1 rfl ?_
  refine z_iload C dL_law_751 5 rfl ?_
  refine z_iconst (v := (1 : Int32)) C dL_law_753 (by decide) ?_
  refine z_iadd C dL_law_754 ?_
  obtain ⟨x185, i_x185, e_x185, hm⟩ := zRd_of hm
  refine z_sld C X i_x185 e_x185 dL_law_755 ?_
  obtain ⟨x186, s187, q_s187, hm⟩ := zBd_of hm
  obtain ⟨s188, e_s188, hm⟩ := zLt_of hm
  refine z_dV (vd := false) (Cn := RX8) (k := 0) (o := 27) C 1 [.int x185] [] sM (c_X8_taxOn (zI_sub sM (zC_I C)) (zC_st C) q_s187) gL_law_X8_taxOn (by decide +kernel) kM0 vc8 rfl rfl dL_law_756 rfl ⟨Nat.le_of_ble_eq_true rfl, Nat.le_of_ble_eq_true rfl⟩ rfl (Nat.le_of_ble_eq_true rfl) ?_
  rw [show zMix 27 zLM.length s184 s187 = s188 from e_s188.symm]
  refine z_istore (y := x186) (lv' := [(6, .int x186), (5, .int x183), (0, .ref b), (1, .ref (ad 0)), (2, .ref (ad 27)), (3, .ref (ad 46)), (4, .int v4)]) C dL_law_759 (by decide) rfl rfl ?_
  refine z_aload_n C dL_law_761 rfl 4 rfl ?_
  obtain ⟨x189, s190, q_s190, hm⟩ := zBd_of hm
  obtain ⟨s191, e_s191, hm⟩ := zLt_of hm
  refine z_dV (vd := false) (Cn := RX8) (k := 0) (o := 27) C 0 [] [] sM (c_X8_thrown (zI_sub sM (zC_I C)) (zC_st C) q_s190) gL_law_X8_thrown (by decide +kernel) kM0 vc8 rfl rfl dL_law_762 rfl ⟨Nat.le_of_ble_eq_true rfl, Nat.le_of_ble_eq_true rfl⟩ rfl (Nat.le_of_ble_eq_true rfl) ?_
  rw [show zMix 27 zLM.length s188 s190 = s191 from e_s191.symm]
  refine z_iload C dL_law_765 1 rfl ?_
  refine z_icmp_eq (tgt := 772) C dL_law_767 (by decide) (fun c192 => ?_) (fun c192 => ?_)
  · have hm := zIt hm c192
    refine z_iload C dL_law_772 1 rfl ?_
    refine z_if_ne (tgt := 789) C dL_law_774 (by decide) (fun c193 => ?_) (fun c193 => ?_)
    · have hm := zIf hm c193
      refine z_goto (tgt := 1247) C dL_law_789 (by decide) ?_
      obtain ⟨x194, e_x194, hm⟩ := zLt_of hm
      refine z_iinc (j := 6) (v := x194) (d := (5 : Int32)) (lv' := [(4, .int x194), (6, .int x186), (5, .int x183), (0, .ref b), (1, .ref (ad 0)), (2, .ref (ad 27)), (3, .ref (ad 46))]) C dL_law_1247 rfl (by decide) e_x194 (by decide) rfl ?_
      refine z_goto (tgt := 23) C dL_law_1250 (by decide) ?_
      exact z_sub [3, 4, 5, 6, 0] rfl (ih _ _ _ C X hQ (zBud_p hB) hm)
    · have hm := zIt hm c193
      refine z_aload_n C dL_law_777 rfl 5 rfl ?_
      refine z_iconst (v := (0 : Int32)) C dL_law_778 (by decide) ?_
      obtain ⟨x195, i_x195, e_x195, hm⟩ := zRd_of hm
      refine z_lald C kL46 i_x195 e_x195 dL_law_779 ?_
      refine z_iload C dL_law_780 0 rfl ?_
      refine z_i2l C dL_law_782 ?_
      refine z_lcmp C dL_law_783 ?_
      refine z_if_eq (tgt := 789) C dL_law_784 (by decide) (fun c196 => ?_) (fun c196 => ?_)
      · have hm := zIt hm c196
        refine z_goto (tgt := 1247) C dL_law_789 (by decide) ?_
        obtain ⟨x197, e_x197, hm⟩ := zLt_of hm
        refine z_iinc (j := 6) (v := x197) (d := (5 : Int32)) (lv' := [(4, .int x197), (6, .int x186), (5, .int x183), (0, .ref b), (1, .ref (ad 0)), (2, .ref (ad 27)), (3, .ref (ad 46))]) C dL_law_1247 rfl (by decide) e_x197 (by decide) rfl ?_
        refine z_goto (tgt := 23) C dL_law_1250 (by decide) ?_
        exact z_sub [3, 4, 5, 6, 0] rfl (ih _ _ _ C X hQ (zBud_p hB) hm)
      · have hm := zIf hm c196
        refine z_iconst (v := (0 : Int32)) C dL_law_787 (by decide) ?_
        exact absurd (Sum.inl.inj (zRt_of hm).1) (by decide)
  · have hm := zIf hm c192
    refine z_iconst (v := (0 : Int32)) C dL_law_770 (by decide) ?_
    exact absurd (Sum.inl.inj (zRt_of hm).1) (by decide)
set_option maxRecDepth 100000 in
set_option maxHeartbeats 4000000 in
theorem w_L_law_c11 {h : zH} {ad : Nat → Nat} {G : zG} {b N f n : Nat} {xs : Nat → Int32} {s9 : zS} {rec : Int32 → zS → Option (Int32 × zS)} {tb : List ExceptionTableEntry} (C : zCT tb h ad zLL 7 G cL_law RL wsL_law 12 428) (X : zScr ad zLL G b N xs) (hQ : zQl ad b G) (hB : zBud G (f + 1)) (ih : ∀ (G : zG) (v4 : Int32) (s : zS), zCT tb h ad zLL 7 G cL_law RL wsL_law 12 428 → zScr ad zLL G b N xs → zQl ad b G → zBud G f → rec v4 s = some (1, s9) → zV h ad zLL 7 G s 23 [(0, .ref b), (1, .ref (ad 0)), (2, .ref (ad 27)), (3, .ref (ad 46)), (4, .int v4)] []) {v4 : Int32} {s : zS} (hm : m_L_law_c11 rec n N xs v4 s = some (1, s9)) : zV h ad zLL 7 G s 792 [(0, .ref b), (1, .ref (ad 0)), (2, .ref (ad 27)), (3, .ref (ad 46)), (4, .int v4)] [] := by
  rw [m_L_law_c11] at hm
  refine z_aload_n C dL_law_792 rfl 1 rfl ?_
  refine z_aload_n C dL_law_793 rfl 0 rfl ?_
  refine z_iload C dL_law_794 4 rfl ?_
  refine z_iconst (v := (1 : Int32)) C dL_law_796 (by decide) ?_
  refine z_iadd C dL_law_797 ?_
  obtain ⟨x199, i_x199, e_x199, hm⟩ := zRd_of hm
  refine z_sld C X i_x199 e_x199 dL_law_798 ?_
  refine z_aload_n C dL_law_799 rfl 0 rfl ?_
  refine z_iload C dL_law_800 4 rfl ?_
  refine z_iconst (v := (2 : Int32)) C dL_law_802 (by decide) ?_
  refine z_iadd C dL_law_803 ?_
  obtain ⟨x200, i_x200, e_x200, hm⟩ := zRd_of hm
  refine z_sld C X i_x200 e_x200 dL_law_804 ?_
  refine z_aload_n C dL_law_805 rfl 3 rfl ?_
  obtain ⟨x201, s202, q_s202, hm⟩ := zBd_of hm
  refine z_lS C 4 [.ref (ad 0), .int x199, .int x200, .ref (ad 46)] [] (zBud_r hB) (c_L_carry (zC_I C) (zC_st C) q_s202) gL_law_L_carry (by decide +kernel) rfl dL_law_806 rfl ⟨Nat.le_of_ble_eq_true rfl, Nat.le_of_ble_eq_true rfl⟩ rfl (Nat.le_of_ble_eq_true rfl) ?_
  have C := zCT_p C (zBud_r hB)
  have X := zScr_p X
  have hQ := zQl_p hQ
  refine z_istore (y := x201) (lv' := [(5, .int x201), (0, .ref b), (1, .ref (ad 0)), (2, .ref (ad 27)), (3, .ref (ad 46)), (4, .int v4)]) C dL_law_809 (by decide) rfl rfl ?_
  refine z_aload_n C dL_law_811 rfl 3 rfl ?_
  refine z_aload_n C dL_law_812 rfl 1 rfl ?_
  refine z_iload C dL_law_813 5 rfl ?_
  refine z_iconst (v := (1 : Int32)) C dL_law_815 (by decide) ?_
  refine z_iadd C dL_law_816 ?_
  obtain ⟨x203, i_x203, e_x203, hm⟩ := zRd_of hm
  refine z_sld C X i_x203 e_x203 dL_law_817 ?_
  refine z_aload_n C dL_law_818 rfl 1 rfl ?_
  refine z_iload C dL_law_819 5 rfl ?_
  refine z_iconst (v := (2 : Int32)) C dL_law_821 (by decide) ?_
  refine z_iadd C dL_law_822 ?_
  obtain ⟨x204, i_x204, e_x204, hm⟩ := zRd_of hm
  refine z_sld C X i_x204 e_x204 dL_law_823 ?_
  obtain ⟨x205, s206, q_s206, hm⟩ := zBd_of hm
  obtain ⟨s207, e_s207, hm⟩ := zLt_of hm
  refine z_dV (vd := false) (Cn := RX8) (k := 0) (o := 27) C 2 [.int x203, .int x204] [] sM (c_X8_carry (zI_sub sM (zC_I C)) (zC_st C) q_s206) gL_law_X8_carry (by decide +kernel) kM0 vc8 rfl rfl dL_law_824 rfl ⟨Nat.le_of_ble_eq_true rfl, Nat.le_of_ble_eq_true rfl⟩ rfl (Nat.le_of_ble_eq_true rfl) ?_
  rw [show zMix 27 zLM.length s202 s206 = s207 from e_s207.symm]
  refine z_istore (y := x205) (lv' := [(6, .int x205), (5, .int x201), (0, .ref b), (1, .ref (ad 0)), (2, .ref (ad 27)), (3, .ref (ad 46)), (4, .int v4)]) C dL_law_827 (by decide) rfl rfl ?_
  refine z_aload_n C dL_law_829 rfl 4 rfl ?_
  obtain ⟨x208, s209, q_s209, hm⟩ := zBd_of hm
  obtain ⟨s210, e_s210, hm⟩ := zLt_of hm
  refine z_dV (vd := false) (Cn := RX8) (k := 0) (o := 27) C 0 [] [] sM (c_X8_thrown (zI_sub sM (zC_I C)) (zC_st C) q_s209) gL_law_X8_thrown (by decide +kernel) kM0 vc8 rfl rfl dL_law_830 rfl ⟨Nat.le_of_ble_eq_true rfl, Nat.le_of_ble_eq_true rfl⟩ rfl (Nat.le_of_ble_eq_true rfl) ?_
  rw [show zMix 27 zLM.length s207 s209 = s210 from e_s210.symm]
  refine z_iload C dL_law_833 1 rfl ?_
  refine z_icmp_eq (tgt := 840) C dL_law_835 (by decide) (fun c211 => ?_) (fun c211 => ?_)
  · have hm := zIt hm c211
    refine z_iload C dL_law_840 1 rfl ?_
    refine z_if_ne (tgt := 857) C dL_law_842 (by decide) (fun c212 => ?_) (fun c212 => ?_)
    · have hm := zIf hm c212
      refine z_goto (tgt := 1247) C dL_law_857 (by decide) ?_
      obtain ⟨x213, e_x213, hm⟩ := zLt_of hm
      refine z_iinc (j := 6) (v := x213) (d := (5 : Int32)) (lv' := [(4, .int x213), (6, .int x205), (5, .int x201), (0, .ref b), (1, .ref (ad 0)), (2, .ref (ad 27)), (3, .ref (ad 46))]) C dL_law_1247 rfl (by decide) e_x213 (by decide) rfl ?_
      refine z_goto (tgt := 23) C dL_law_1250 (by decide) ?_
      exact z_sub [3, 4, 5, 6, 0] rfl (ih _ _ _ C X hQ (zBud_p hB) hm)
    · have hm := zIt hm c212
      refine z_aload_n C dL_law_845 rfl 5 rfl ?_
      refine z_iconst (v := (0 : Int32)) C dL_law_846 (by decide) ?_
      obtain ⟨x214, i_x214, e_x214, hm⟩ := zRd_of hm
      refine z_lald C kL46 i_x214 e_x214 dL_law_847 ?_
      refine z_iload C dL_law_848 0 rfl ?_
      refine z_i2l C dL_law_850 ?_
      refine z_lcmp C dL_law_851 ?_
      refine z_if_eq (tgt := 857) C dL_law_852 (by decide) (fun c215 => ?_) (fun c215 => ?_)
      · have hm := zIt hm c215
        refine z_goto (tgt := 1247) C dL_law_857 (by decide) ?_
        obtain ⟨x216, e_x216, hm⟩ := zLt_of hm
        refine z_iinc (j := 6) (v := x216) (d := (5 : Int32)) (lv' := [(4, .int x216), (6, .int x205), (5, .int x201), (0, .ref b), (1, .ref (ad 0)), (2, .ref (ad 27)), (3, .ref (ad 46))]) C dL_law_1247 rfl (by decide) e_x216 (by decide) rfl ?_
        refine z_goto (tgt := 23) C dL_law_1250 (by decide) ?_
        exact z_sub [3, 4, 5, 6, 0] rfl (ih _ _ _ C X hQ (zBud_p hB) hm)
      · have hm := zIf hm c215
        refine z_iconst (v := (0 : Int32)) C dL_law_855 (by decide) ?_
        exact absurd (Sum.inl.inj (zRt_of hm).1) (by decide)
  · have hm := zIf hm c211
    refine z_iconst (v := (0 : Int32)) C dL_law_838 (by decide) ?_
    exact absurd (Sum.inl.inj (zRt_of hm).1) (by decide)
set_option maxRecDepth 100000 in
set_option maxHeartbeats 4000000 in
theorem w_L_law_c12 {h : zH} {ad : Nat → Nat} {G : zG} {b N f n : Nat} {xs : Nat → Int32} {s9 : zS} {rec : Int32 → zS → Option (Int32 × zS)} {tb : List ExceptionTableEntry} (C : zCT tb h ad zLL 7 G cL_law RL wsL_law 12 428) (X : zScr ad zLL G b N xs) (hQ : zQl ad b G) (hB : zBud G (f + 1)) (ih : ∀ (G : zG) (v4 : Int32) (s : zS), zCT tb h ad zLL 7 G cL_law RL wsL_law 12 428 → zScr ad zLL G b N xs → zQl ad b G → zBud G f → rec v4 s = some (1, s9) → zV h ad zLL 7 G s 23 [(0, .ref b), (1, .ref (ad 0)), (2, .ref (ad 27)), (3, .ref (ad 46)), (4, .int v4)] []) {v4 : Int32} {s : zS} (hm : m_L_law_c12 rec n N xs v4 s = some (1, s9)) : zV h ad zLL 7 G s 860 [(0, .ref b), (1, .ref (ad 0)), (2, .ref (ad 27)), (3, .ref (ad 46)), (4, .int v4)] [] := by
  rw [m_L_law_c12] at hm
  refine z_aload_n C dL_law_860 rfl 1 rfl ?_
  obtain ⟨x218, s219, q_s219, hm⟩ := zBd_of hm
  obtain ⟨s220, e_s220, hm⟩ := zLt_of hm
  refine z_dV (vd := false) (Cn := RX7) (k := 0) (o := 0) C 0 [] [] sX (c_X7_carried (zI_sub sX (zC_I C)) (zC_st C) q_s219) gL_law_X7_carried (by decide +kernel) kX0 vc7 rfl rfl dL_law_861 rfl ⟨Nat.le_of_ble_eq_true rfl, Nat.le_of_ble_eq_true rfl⟩ rfl (Nat.le_of_ble_eq_true rfl) ?_
  rw [show zMix 0 zLX.length s s219 = s220 from e_s220.symm]
  refine z_aload_n C dL_law_864 rfl 2 rfl ?_
  obtain ⟨x221, s222, q_s222, hm⟩ := zBd_of hm
  obtain ⟨s223, e_s223, hm⟩ := zLt_of hm
  refine z_dV (vd := false) (Cn := RX8) (k := 0) (o := 27) C 0 [] [.int x218] sM (c_X8_carried (zI_sub sM (zC_I C)) (zC_st C) q_s222) gL_law_X8_carried (by decide +kernel) kM0 vc8 rfl rfl dL_law_865 rfl ⟨Nat.le_of_ble_eq_true rfl, Nat.le_of_ble_eq_true rfl⟩ rfl (Nat.le_of_ble_eq_true rfl) ?_
  rw [show zMix 27 zLM.length s220 s222 = s223 from e_s223.symm]
  refine z_icmp_eq (tgt := 1247) C dL_law_868 (by decide) (fun c224 => ?_) (fun c224 => ?_)
  · have hm := zIt hm c224
    obtain ⟨x225, e_x225, hm⟩ := zLt_of hm
    refine z_iinc (j := 4) (v := x225) (d := (5 : Int32)) (lv' := [(4, .int x225), (0, .ref b), (1, .ref (ad 0)), (2, .ref (ad 27)), (3, .ref (ad 46))]) C dL_law_1247 rfl (by decide) e_x225 (by decide) rfl ?_
    refine z_goto (tgt := 23) C dL_law_1250 (by decide) ?_
    exact z_sub [1, 2, 3, 4, 0] rfl (ih _ _ _ C X hQ (zBud_s hB) hm)
  · have hm := zIf hm c224
    refine z_iconst (v := (0 : Int32)) C dL_law_871 (by decide) ?_
    exact absurd (Sum.inl.inj (zRt_of hm).1) (by decide)
set_option maxRecDepth 100000 in
set_option maxHeartbeats 4000000 in
theorem w_L_law_c13 {h : zH} {ad : Nat → Nat} {G : zG} {b N f n : Nat} {xs : Nat → Int32} {s9 : zS} {rec : Int32 → zS → Option (Int32 × zS)} {tb : List ExceptionTableEntry} (C : zCT tb h ad zLL 7 G cL_law RL wsL_law 12 428) (X : zScr ad zLL G b N xs) (hQ : zQl ad b G) (hB : zBud G (f + 1)) (ih : ∀ (G : zG) (v4 : Int32) (s : zS), zCT tb h ad zLL 7 G cL_law RL wsL_law 12 428 → zScr ad zLL G b N xs → zQl ad b G → zBud G f → rec v4 s = some (1, s9) → zV h ad zLL 7 G s 23 [(0, .ref b), (1, .ref (ad 0)), (2, .ref (ad 27)), (3, .ref (ad 46)), (4, .int v4)] []) {v4 : Int32} {s : zS} (hm : m_L_law_c13 rec n N xs v4 s = some (1, s9)) : zV h ad zLL 7 G s 873 [(0, .ref b), (1, .ref (ad 0)), (2, .ref (ad 27)), (3, .ref (ad 46)), (4, .int v4)] [] := by
  rw [m_L_law_c13] at hm
  refine z_aload_n C dL_law_873 rfl 1 rfl ?_
  refine z_aload_n C dL_law_874 rfl 0 rfl ?_
  refine z_iload C dL_law_875 4 rfl ?_
  refine z_iconst (v := (1 : Int32)) C dL_law_877 (by decide) ?_
  refine z_iadd C dL_law_878 ?_
  obtain ⟨x227, i_x227, e_x227, hm⟩ := zRd_of hm
  refine z_sld C X i_x227 e_x227 dL_law_879 ?_
  refine z_aload_n C dL_law_880 rfl 3 rfl ?_
  obtain ⟨x228, s229, q_s229, hm⟩ := zBd_of hm
  refine z_lS C 3 [.ref (ad 0), .int x227, .ref (ad 46)] [] (zBud_r hB) (c_L_carriedAt (zC_I C) (zC_st C) q_s229) gL_law_L_carriedAt (by decide +kernel) rfl dL_law_881 rfl ⟨Nat.le_of_ble_eq_true rfl, Nat.le_of_ble_eq_true rfl⟩ rfl (Nat.le_of_ble_eq_true rfl) ?_
  have C := zCT_p C (zBud_r hB)
  have X := zScr_p X
  have hQ := zQl_p hQ
  refine z_istore (y := x228) (lv' := [(5, .int x228), (0, .ref b), (1, .ref (ad 0)), (2, .ref (ad 27)), (3, .ref (ad 46)), (4, .int v4)]) C dL_law_884 (by decide) rfl rfl ?_
  refine z_aload_n C dL_law_886 rfl 3 rfl ?_
  refine z_aload_n C dL_law_887 rfl 1 rfl ?_
  refine z_iload C dL_law_888 5 rfl ?_
  refine z_iconst (v := (1 : Int32)) C dL_law_890 (by decide) ?_
  refine z_iadd C dL_law_891 ?_
  obtain ⟨x230, i_x230, e_x230, hm⟩ := zRd_of hm
  refine z_sld C X i_x230 e_x230 dL_law_892 ?_
  obtain ⟨x231, s232, q_s232, hm⟩ := zBd_of hm
  obtain ⟨s233, e_s233, hm⟩ := zLt_of hm
  refine z_dV (vd := false) (Cn := RX8) (k := 0) (o := 27) C 1 [.int x230] [] sM (c_X8_carriedAt (zI_sub sM (zC_I C)) (zC_st C) q_s232) gL_law_X8_carriedAt (by decide +kernel) kM0 vc8 rfl rfl dL_law_893 rfl ⟨Nat.le_of_ble_eq_true rfl, Nat.le_of_ble_eq_true rfl⟩ rfl (Nat.le_of_ble_eq_true rfl) ?_
  rw [show zMix 27 zLM.length s229 s232 = s233 from e_s233.symm]
  refine z_istore (y := x231) (lv' := [(6, .int x231), (5, .int x228), (0, .ref b), (1, .ref (ad 0)), (2, .ref (ad 27)), (3, .ref (ad 46)), (4, .int v4)]) C dL_law_896 (by decide) rfl rfl ?_
  refine z_aload_n C dL_law_898 rfl 4 rfl ?_
  obtain ⟨x234, s235, q_s235, hm⟩ := zBd_of hm
  obtain ⟨s236, e_s236, hm⟩ := zLt_of hm
  refine z_dV (vd := false) (Cn := RX8) (k := 0) (o := 27) C 0 [] [] sM (c_X8_thrown (zI_sub sM (zC_I C)) (zC_st C) q_s235) gL_law_X8_thrown (by decide +kernel) kM0 vc8 rfl rfl dL_law_899 rfl ⟨Nat.le_of_ble_eq_true rfl, Nat.le_of_ble_eq_true rfl⟩ rfl (Nat.le_of_ble_eq_true rfl) ?_
  rw [show zMix 27 zLM.length s233 s235 = s236 from e_s236.symm]
  refine z_iload C dL_law_902 1 rfl ?_
  refine z_icmp_eq (tgt := 909) C dL_law_904 (by decide) (fun c237 => ?_) (fun c237 => ?_)
  · have hm := zIt hm c237
    refine z_iload C dL_law_909 1 rfl ?_
    refine z_if_ne (tgt := 926) C dL_law_911 (by decide) (fun c238 => ?_) (fun c238 => ?_)
    · have hm := zIf hm c238
      refine z_goto (tgt := 1247) C dL_law_926 (by decide) ?_
      obtain ⟨x239, e_x239, hm⟩ := zLt_of hm
      refine z_iinc (j := 6) (v := x239) (d := (5 : Int32)) (lv' := [(4, .int x239), (6, .int x231), (5, .int x228), (0, .ref b), (1, .ref (ad 0)), (2, .ref (ad 27)), (3, .ref (ad 46))]) C dL_law_1247 rfl (by decide) e_x239 (by decide) rfl ?_
      refine z_goto (tgt := 23) C dL_law_1250 (by decide) ?_
      exact z_sub [3, 4, 5, 6, 0] rfl (ih _ _ _ C X hQ (zBud_p hB) hm)
    · have hm := zIt hm c238
      refine z_aload_n C dL_law_914 rfl 5 rfl ?_
      refine z_iconst (v := (0 : Int32)) C dL_law_915 (by decide) ?_
      obtain ⟨x240, i_x240, e_x240, hm⟩ := zRd_of hm
      refine z_lald C kL46 i_x240 e_x240 dL_law_916 ?_
      refine z_iload C dL_law_917 0 rfl ?_
      refine z_i2l C dL_law_919 ?_
      refine z_lcmp C dL_law_920 ?_
      refine z_if_eq (tgt := 926) C dL_law_921 (by decide) (fun c241 => ?_) (fun c241 => ?_)
      · have hm := zIt hm c241
        refine z_goto (tgt := 1247) C dL_law_926 (by decide) ?_
        obtain ⟨x242, e_x242, hm⟩ := zLt_of hm
        refine z_iinc (j := 6) (v := x242) (d := (5 : Int32)) (lv' := [(4, .int x242), (6, .int x231), (5, .int x228), (0, .ref b), (1, .ref (ad 0)), (2, .ref (ad 27)), (3, .ref (ad 46))]) C dL_law_1247 rfl (by decide) e_x242 (by decide) rfl ?_
        refine z_goto (tgt := 23) C dL_law_1250 (by decide) ?_
        exact z_sub [3, 4, 5, 6, 0] rfl (ih _ _ _ C X hQ (zBud_p hB) hm)
      · have hm := zIf hm c241
        refine z_iconst (v := (0 : Int32)) C dL_law_924 (by decide) ?_
        exact absurd (Sum.inl.inj (zRt_of hm).1) (by decide)
  · have hm := zIf hm c237
    refine z_iconst (v := (0 : Int32)) C dL_law_907 (by decide) ?_
    exact absurd (Sum.inl.inj (zRt_of hm).1) (by decide)
set_option maxRecDepth 100000 in
set_option maxHeartbeats 4000000 in
theorem w_L_law_c14 {h : zH} {ad : Nat → Nat} {G : zG} {b N f n : Nat} {xs : Nat → Int32} {s9 : zS} {rec : Int32 → zS → Option (Int32 × zS)} {tb : List ExceptionTableEntry} (C : zCT tb h ad zLL 7 G cL_law RL wsL_law 12 428) (X : zScr ad zLL G b N xs) (hQ : zQl ad b G) (hB : zBud G (f + 1)) (ih : ∀ (G : zG) (v4 : Int32) (s : zS), zCT tb h ad zLL 7 G cL_law RL wsL_law 12 428 → zScr ad zLL G b N xs → zQl ad b G → zBud G f → rec v4 s = some (1, s9) → zV h ad zLL 7 G s 23 [(0, .ref b), (1, .ref (ad 0)), (2, .ref (ad 27)), (3, .ref (ad 46)), (4, .int v4)] []) {v4 : Int32} {s : zS} (hm : m_L_law_c14 rec n N xs v4 s = some (1, s9)) : zV h ad zLL 7 G s 929 [(0, .ref b), (1, .ref (ad 0)), (2, .ref (ad 27)), (3, .ref (ad 46)), (4, .int v4)] [] := by
  rw [m_L_law_c14] at hm
  refine z_aload_n C dL_law_929 rfl 1 rfl ?_
  obtain ⟨x244, s245, q_s245, hm⟩ := zBd_of hm
  obtain ⟨s246, e_s246, hm⟩ := zLt_of hm
  refine z_dV (vd := false) (Cn := RX7) (k := 0) (o := 0) C 0 [] [] sX (c_X7_year (zI_sub sX (zC_I C)) (zC_st C) q_s245) gL_law_X7_year (by decide +kernel) kX0 vc7 rfl rfl dL_law_930 rfl ⟨Nat.le_of_ble_eq_true rfl, Nat.le_of_ble_eq_true rfl⟩ rfl (Nat.le_of_ble_eq_true rfl) ?_
  rw [show zMix 0 zLX.length s s245 = s246 from e_s246.symm]
  refine z_aload_n C dL_law_933 rfl 2 rfl ?_
  obtain ⟨x247, s248, q_s248, hm⟩ := zBd_of hm
  obtain ⟨s249, e_s249, hm⟩ := zLt_of hm
  refine z_dV (vd := false) (Cn := RX8) (k := 0) (o := 27) C 0 [] [.int x244] sM (c_X8_year (zI_sub sM (zC_I C)) (zC_st C) q_s248) gL_law_X8_year (by decide +kernel) kM0 vc8 rfl rfl dL_law_934 rfl ⟨Nat.le_of_ble_eq_true rfl, Nat.le_of_ble_eq_true rfl⟩ rfl (Nat.le_of_ble_eq_true rfl) ?_
  rw [show zMix 27 zLM.length s246 s248 = s249 from e_s249.symm]
  refine z_icmp_eq (tgt := 1247) C dL_law_937 (by decide) (fun c250 => ?_) (fun c250 => ?_)
  · have hm := zIt hm c250
    obtain ⟨x251, e_x251, hm⟩ := zLt_of hm
    refine z_iinc (j := 4) (v := x251) (d := (5 : Int32)) (lv' := [(4, .int x251), (0, .ref b), (1, .ref (ad 0)), (2, .ref (ad 27)), (3, .ref (ad 46))]) C dL_law_1247 rfl (by decide) e_x251 (by decide) rfl ?_
    refine z_goto (tgt := 23) C dL_law_1250 (by decide) ?_
    exact z_sub [1, 2, 3, 4, 0] rfl (ih _ _ _ C X hQ (zBud_s hB) hm)
  · have hm := zIf hm c250
    refine z_iconst (v := (0 : Int32)) C dL_law_940 (by decide) ?_
    exact absurd (Sum.inl.inj (zRt_of hm).1) (by decide)
set_option maxRecDepth 100000 in
set_option maxHeartbeats 4000000 in
theorem w_L_law_c15 {h : zH} {ad : Nat → Nat} {G : zG} {b N f n : Nat} {xs : Nat → Int32} {s9 : zS} {rec : Int32 → zS → Option (Int32 × zS)} {tb : List ExceptionTableEntry} (C : zCT tb h ad zLL 7 G cL_law RL wsL_law 12 428) (X : zScr ad zLL G b N xs) (hQ : zQl ad b G) (hB : zBud G (f + 1)) (ih : ∀ (G : zG) (v4 : Int32) (s : zS), zCT tb h ad zLL 7 G cL_law RL wsL_law 12 428 → zScr ad zLL G b N xs → zQl ad b G → zBud G f → rec v4 s = some (1, s9) → zV h ad zLL 7 G s 23 [(0, .ref b), (1, .ref (ad 0)), (2, .ref (ad 27)), (3, .ref (ad 46)), (4, .int v4)] []) {v4 : Int32} {s : zS} (hm : m_L_law_c15 rec n N xs v4 s = some (1, s9)) : zV h ad zLL 7 G s 942 [(0, .ref b), (1, .ref (ad 0)), (2, .ref (ad 27)), (3, .ref (ad 46)), (4, .int v4)] [] := by
  rw [m_L_law_c15] at hm
  refine z_aload_n C dL_law_942 rfl 1 rfl ?_
  obtain ⟨x253, s254, q_s254, hm⟩ := zBd_of hm
  obtain ⟨s255, e_s255, hm⟩ := zLt_of hm
  refine z_dV (vd := false) (Cn := RX7) (k := 0) (o := 0) C 0 [] [] sX (c_X7_closeYear (zI_sub sX (zC_I C)) (zC_st C) q_s254) gL_law_X7_closeYear (by decide +kernel) kX0 vc7 rfl rfl dL_law_943 rfl ⟨Nat.le_of_ble_eq_true rfl, Nat.le_of_ble_eq_true rfl⟩ rfl (Nat.le_of_ble_eq_true rfl) ?_
  rw [show zMix 0 zLX.length s s254 = s255 from e_s255.symm]
  refine z_aload_n C dL_law_946 rfl 2 rfl ?_
  obtain ⟨x256, s257, q_s257, hm⟩ := zBd_of hm
  obtain ⟨s258, e_s258, hm⟩ := zLt_of hm
  refine z_dV (vd := false) (Cn := RX8) (k := 0) (o := 27) C 0 [] [.int x253] sM (c_X8_closeYear (zI_sub sM (zC_I C)) (zC_st C) q_s257) gL_law_X8_closeYear (by decide +kernel) kM0 vc8 rfl rfl dL_law_947 rfl ⟨Nat.le_of_ble_eq_true rfl, Nat.le_of_ble_eq_true rfl⟩ rfl (Nat.le_of_ble_eq_true rfl) ?_
  rw [show zMix 27 zLM.length s255 s257 = s258 from e_s258.symm]
  refine z_icmp_eq (tgt := 1247) C dL_law_950 (by decide) (fun c259 => ?_) (fun c259 => ?_)
  · have hm := zIt hm c259
    obtain ⟨x260, e_x260, hm⟩ := zLt_of hm
    refine z_iinc (j := 4) (v := x260) (d := (5 : Int32)) (lv' := [(4, .int x260), (0, .ref b), (1, .ref (ad 0)), (2, .ref (ad 27)), (3, .ref (ad 46))]) C dL_law_1247 rfl (by decide) e_x260 (by decide) rfl ?_
    refine z_goto (tgt := 23) C dL_law_1250 (by decide) ?_
    exact z_sub [1, 2, 3, 4, 0] rfl (ih _ _ _ C X hQ (zBud_s hB) hm)
  · have hm := zIf hm c259
    refine z_iconst (v := (0 : Int32)) C dL_law_953 (by decide) ?_
    exact absurd (Sum.inl.inj (zRt_of hm).1) (by decide)
set_option maxRecDepth 100000 in
set_option maxHeartbeats 4000000 in
theorem w_L_law_c16 {h : zH} {ad : Nat → Nat} {G : zG} {b N f n : Nat} {xs : Nat → Int32} {s9 : zS} {rec : Int32 → zS → Option (Int32 × zS)} {tb : List ExceptionTableEntry} (C : zCT tb h ad zLL 7 G cL_law RL wsL_law 12 428) (X : zScr ad zLL G b N xs) (hQ : zQl ad b G) (hB : zBud G (f + 1)) (ih : ∀ (G : zG) (v4 : Int32) (s : zS), zCT tb h ad zLL 7 G cL_law RL wsL_law 12 428 → zScr ad zLL G b N xs → zQl ad b G → zBud G f → rec v4 s = some (1, s9) → zV h ad zLL 7 G s 23 [(0, .ref b), (1, .ref (ad 0)), (2, .ref (ad 27)), (3, .ref (ad 46)), (4, .int v4)] []) {v4 : Int32} {s : zS} (hm : m_L_law_c16 rec n N xs v4 s = some (1, s9)) : zV h ad zLL 7 G s 955 [(0, .ref b), (1, .ref (ad 0)), (2, .ref (ad 27)), (3, .ref (ad 46)), (4, .int v4)] [] := by
  rw [m_L_law_c16] at hm
  refine z_aload_n C dL_law_955 rfl 1 rfl ?_
  refine z_aload_n C dL_law_956 rfl 0 rfl ?_
  refine z_iload C dL_law_957 4 rfl ?_
  refine z_iconst (v := (1 : Int32)) C dL_law_959 (by decide) ?_
  refine z_iadd C dL_law_960 ?_
  obtain ⟨x262, i_x262, e_x262, hm⟩ := zRd_of hm
  refine z_sld C X i_x262 e_x262 dL_law_961 ?_
  refine z_aload_n C dL_law_962 rfl 0 rfl ?_
  refine z_iload C dL_law_963 4 rfl ?_
  refine z_iconst (v := (2 : Int32)) C dL_law_965 (by decide) ?_
  refine z_iadd C dL_law_966 ?_
  obtain ⟨x263, i_x263, e_x263, hm⟩ := zRd_of hm
  refine z_sld C X i_x263 e_x263 dL_law_967 ?_
  refine z_aload_n C dL_law_968 rfl 3 rfl ?_
  obtain ⟨x264, s265, q_s265, hm⟩ := zBd_of hm
  refine z_lS C 4 [.ref (ad 0), .int x262, .int x263, .ref (ad 46)] [] (zBud_r hB) (c_L_addCredit (zC_I C) (zC_st C) q_s265) gL_law_L_addCredit (by decide +kernel) rfl dL_law_969 rfl ⟨Nat.le_of_ble_eq_true rfl, Nat.le_of_ble_eq_true rfl⟩ rfl (Nat.le_of_ble_eq_true rfl) ?_
  have C := zCT_p C (zBud_r hB)
  have X := zScr_p X
  have hQ := zQl_p hQ
  refine z_istore (y := x264) (lv' := [(5, .int x264), (0, .ref b), (1, .ref (ad 0)), (2, .ref (ad 27)), (3, .ref (ad 46)), (4, .int v4)]) C dL_law_972 (by decide) rfl rfl ?_
  refine z_aload_n C dL_law_974 rfl 3 rfl ?_
  refine z_aload_n C dL_law_975 rfl 1 rfl ?_
  refine z_iload C dL_law_976 5 rfl ?_
  refine z_iconst (v := (1 : Int32)) C dL_law_978 (by decide) ?_
  refine z_iadd C dL_law_979 ?_
  obtain ⟨x266, i_x266, e_x266, hm⟩ := zRd_of hm
  refine z_sld C X i_x266 e_x266 dL_law_980 ?_
  refine z_aload_n C dL_law_981 rfl 1 rfl ?_
  refine z_iload C dL_law_982 5 rfl ?_
  refine z_iconst (v := (2 : Int32)) C dL_law_984 (by decide) ?_
  refine z_iadd C dL_law_985 ?_
  obtain ⟨x267, i_x267, e_x267, hm⟩ := zRd_of hm
  refine z_sld C X i_x267 e_x267 dL_law_986 ?_
  obtain ⟨x268, s269, q_s269, hm⟩ := zBd_of hm
  obtain ⟨s270, e_s270, hm⟩ := zLt_of hm
  refine z_dV (vd := false) (Cn := RX8) (k := 0) (o := 27) C 2 [.int x266, .int x267] [] sM (c_X8_addCredit (zI_sub sM (zC_I C)) (zC_st C) q_s269) gL_law_X8_addCredit (by decide +kernel) kM0 vc8 rfl rfl dL_law_987 rfl ⟨Nat.le_of_ble_eq_true rfl, Nat.le_of_ble_eq_true rfl⟩ rfl (Nat.le_of_ble_eq_true rfl) ?_
  rw [show zMix 27 zLM.length s265 s269 = s270 from e_s270.symm]
  refine z_istore (y := x268) (lv' := [(6, .int x268), (5, .int x264), (0, .ref b), (1, .ref (ad 0)), (2, .ref (ad 27)), (3, .ref (ad 46)), (4, .int v4)]) C dL_law_990 (by decide) rfl rfl ?_
  refine z_aload_n C dL_law_992 rfl 4 rfl ?_
  obtain ⟨x271, s272, q_s272, hm⟩ := zBd_of hm
  obtain ⟨s273, e_s273, hm⟩ := zLt_of hm
  refine z_dV (vd := false) (Cn := RX8) (k := 0) (o := 27) C 0 [] [] sM (c_X8_thrown (zI_sub sM (zC_I C)) (zC_st C) q_s272) gL_law_X8_thrown (by decide +kernel) kM0 vc8 rfl rfl dL_law_993 rfl ⟨Nat.le_of_ble_eq_true rfl, Nat.le_of_ble_eq_true rfl⟩ rfl (Nat.le_of_ble_eq_true rfl) ?_
  rw [show zMix 27 zLM.length s270 s272 = s273 from e_s273.symm]
  refine z_iload C dL_law_996 1 rfl ?_
  refine z_icmp_eq (tgt := 1003) C dL_law_998 (by decide) (fun c274 => ?_) (fun c274 => ?_)
  · have hm := zIt hm c274
    refine z_iload C dL_law_1003 1 rfl ?_
    refine z_if_ne (tgt := 1020) C dL_law_1005 (by decide) (fun c275 => ?_) (fun c275 => ?_)
    · have hm := zIf hm c275
      refine z_goto (tgt := 1247) C dL_law_1020 (by decide) ?_
      obtain ⟨x276, e_x276, hm⟩ := zLt_of hm
      refine z_iinc (j := 6) (v := x276) (d := (5 : Int32)) (lv' := [(4, .int x276), (6, .int x268), (5, .int x264), (0, .ref b), (1, .ref (ad 0)), (2, .ref (ad 27)), (3, .ref (ad 46))]) C dL_law_1247 rfl (by decide) e_x276 (by decide) rfl ?_
      refine z_goto (tgt := 23) C dL_law_1250 (by decide) ?_
      exact z_sub [3, 4, 5, 6, 0] rfl (ih _ _ _ C X hQ (zBud_p hB) hm)
    · have hm := zIt hm c275
      refine z_aload_n C dL_law_1008 rfl 5 rfl ?_
      refine z_iconst (v := (0 : Int32)) C dL_law_1009 (by decide) ?_
      obtain ⟨x277, i_x277, e_x277, hm⟩ := zRd_of hm
      refine z_lald C kL46 i_x277 e_x277 dL_law_1010 ?_
      refine z_iload C dL_law_1011 0 rfl ?_
      refine z_i2l C dL_law_1013 ?_
      refine z_lcmp C dL_law_1014 ?_
      refine z_if_eq (tgt := 1020) C dL_law_1015 (by decide) (fun c278 => ?_) (fun c278 => ?_)
      · have hm := zIt hm c278
        refine z_goto (tgt := 1247) C dL_law_1020 (by decide) ?_
        obtain ⟨x279, e_x279, hm⟩ := zLt_of hm
        refine z_iinc (j := 6) (v := x279) (d := (5 : Int32)) (lv' := [(4, .int x279), (6, .int x268), (5, .int x264), (0, .ref b), (1, .ref (ad 0)), (2, .ref (ad 27)), (3, .ref (ad 46))]) C dL_law_1247 rfl (by decide) e_x279 (by decide) rfl ?_
        refine z_goto (tgt := 23) C dL_law_1250 (by decide) ?_
        exact z_sub [3, 4, 5, 6, 0] rfl (ih _ _ _ C X hQ (zBud_p hB) hm)
      · have hm := zIf hm c278
        refine z_iconst (v := (0 : Int32)) C dL_law_1018 (by decide) ?_
        exact absurd (Sum.inl.inj (zRt_of hm).1) (by decide)
  · have hm := zIf hm c274
    refine z_iconst (v := (0 : Int32)) C dL_law_1001 (by decide) ?_
    exact absurd (Sum.inl.inj (zRt_of hm).1) (by decide)
set_option maxRecDepth 100000 in
set_option maxHeartbeats 4000000 in
theorem w_L_law_c17 {h : zH} {ad : Nat → Nat} {G : zG} {b N f n : Nat} {xs : Nat → Int32} {s9 : zS} {rec : Int32 → zS → Option (Int32 × zS)} {tb : List ExceptionTableEntry} (C : zCT tb h ad zLL 7 G cL_law RL wsL_law 12 428) (X : zScr ad zLL G b N xs) (hQ : zQl ad b G) (hB : zBud G (f + 1)) (ih : ∀ (G : zG) (v4 : Int32) (s : zS), zCT tb h ad zLL 7 G cL_law RL wsL_law 12 428 → zScr ad zLL G b N xs → zQl ad b G → zBud G f → rec v4 s = some (1, s9) → zV h ad zLL 7 G s 23 [(0, .ref b), (1, .ref (ad 0)), (2, .ref (ad 27)), (3, .ref (ad 46)), (4, .int v4)] []) {v4 : Int32} {s : zS} (hm : m_L_law_c17 rec n N xs v4 s = some (1, s9)) : zV h ad zLL 7 G s 1023 [(0, .ref b), (1, .ref (ad 0)), (2, .ref (ad 27)), (3, .ref (ad 46)), (4, .int v4)] [] := by
  rw [m_L_law_c17] at hm
  refine z_aload_n C dL_law_1023 rfl 1 rfl ?_
  refine z_aload_n C dL_law_1024 rfl 3 rfl ?_
  obtain ⟨x281, s282, q_s282, hm⟩ := zBd_of hm
  refine z_lS C 2 [.ref (ad 0), .ref (ad 46)] [] (zBud_r hB) (c_L_dropCredit (zC_I C) (zC_st C) q_s282) gL_law_L_dropCredit (by decide +kernel) rfl dL_law_1025 rfl ⟨Nat.le_of_ble_eq_true rfl, Nat.le_of_ble_eq_true rfl⟩ rfl (Nat.le_of_ble_eq_true rfl) ?_
  have C := zCT_p C (zBud_r hB)
  have X := zScr_p X
  have hQ := zQl_p hQ
  refine z_istore (y := x281) (lv' := [(5, .int x281), (0, .ref b), (1, .ref (ad 0)), (2, .ref (ad 27)), (3, .ref (ad 46)), (4, .int v4)]) C dL_law_1028 (by decide) rfl rfl ?_
  refine z_aload_n C dL_law_1030 rfl 3 rfl ?_
  obtain ⟨x283, s284, q_s284, hm⟩ := zBd_of hm
  obtain ⟨s285, e_s285, hm⟩ := zLt_of hm
  refine z_dV (vd := false) (Cn := RX8) (k := 0) (o := 27) C 0 [] [] sM (c_X8_dropCredit (zI_sub sM (zC_I C)) (zC_st C) q_s284) gL_law_X8_dropCredit (by decide +kernel) kM0 vc8 rfl rfl dL_law_1031 rfl ⟨Nat.le_of_ble_eq_true rfl, Nat.le_of_ble_eq_true rfl⟩ rfl (Nat.le_of_ble_eq_true rfl) ?_
  rw [show zMix 27 zLM.length s282 s284 = s285 from e_s285.symm]
  refine z_istore (y := x283) (lv' := [(6, .int x283), (5, .int x281), (0, .ref b), (1, .ref (ad 0)), (2, .ref (ad 27)), (3, .ref (ad 46)), (4, .int v4)]) C dL_law_1034 (by decide) rfl rfl ?_
  refine z_aload_n C dL_law_1036 rfl 4 rfl ?_
  obtain ⟨x286, s287, q_s287, hm⟩ := zBd_of hm
  obtain ⟨s288, e_s288, hm⟩ := zLt_of hm
  refine z_dV (vd := false) (Cn := RX8) (k := 0) (o := 27) C 0 [] [] sM (c_X8_thrown (zI_sub sM (zC_I C)) (zC_st C) q_s287) gL_law_X8_thrown (by decide +kernel) kM0 vc8 rfl rfl dL_law_1037 rfl ⟨Nat.le_of_ble_eq_true rfl, Nat.le_of_ble_eq_true rfl⟩ rfl (Nat.le_of_ble_eq_true rfl) ?_
  rw [show zMix 27 zLM.length s285 s287 = s288 from e_s288.symm]
  refine z_iload C dL_law_1040 1 rfl ?_
  refine z_icmp_eq (tgt := 1047) C dL_law_1042 (by decide) (fun c289 => ?_) (fun c289 => ?_)
  · have hm := zIt hm c289
    refine z_iload C dL_law_1047 1 rfl ?_
    refine z_if_ne (tgt := 1064) C dL_law_1049 (by decide) (fun c290 => ?_) (fun c290 => ?_)
    · have hm := zIf hm c290
      refine z_goto (tgt := 1247) C dL_law_1064 (by decide) ?_
      obtain ⟨x291, e_x291, hm⟩ := zLt_of hm
      refine z_iinc (j := 6) (v := x291) (d := (5 : Int32)) (lv' := [(4, .int x291), (6, .int x283), (5, .int x281), (0, .ref b), (1, .ref (ad 0)), (2, .ref (ad 27)), (3, .ref (ad 46))]) C dL_law_1247 rfl (by decide) e_x291 (by decide) rfl ?_
      refine z_goto (tgt := 23) C dL_law_1250 (by decide) ?_
      exact z_sub [3, 4, 5, 6, 0] rfl (ih _ _ _ C X hQ (zBud_p hB) hm)
    · have hm := zIt hm c290
      refine z_aload_n C dL_law_1052 rfl 5 rfl ?_
      refine z_iconst (v := (0 : Int32)) C dL_law_1053 (by decide) ?_
      obtain ⟨x292, i_x292, e_x292, hm⟩ := zRd_of hm
      refine z_lald C kL46 i_x292 e_x292 dL_law_1054 ?_
      refine z_iload C dL_law_1055 0 rfl ?_
      refine z_i2l C dL_law_1057 ?_
      refine z_lcmp C dL_law_1058 ?_
      refine z_if_eq (tgt := 1064) C dL_law_1059 (by decide) (fun c293 => ?_) (fun c293 => ?_)
      · have hm := zIt hm c293
        refine z_goto (tgt := 1247) C dL_law_1064 (by decide) ?_
        obtain ⟨x294, e_x294, hm⟩ := zLt_of hm
        refine z_iinc (j := 6) (v := x294) (d := (5 : Int32)) (lv' := [(4, .int x294), (6, .int x283), (5, .int x281), (0, .ref b), (1, .ref (ad 0)), (2, .ref (ad 27)), (3, .ref (ad 46))]) C dL_law_1247 rfl (by decide) e_x294 (by decide) rfl ?_
        refine z_goto (tgt := 23) C dL_law_1250 (by decide) ?_
        exact z_sub [3, 4, 5, 6, 0] rfl (ih _ _ _ C X hQ (zBud_p hB) hm)
      · have hm := zIf hm c293
        refine z_iconst (v := (0 : Int32)) C dL_law_1062 (by decide) ?_
        exact absurd (Sum.inl.inj (zRt_of hm).1) (by decide)
  · have hm := zIf hm c289
    refine z_iconst (v := (0 : Int32)) C dL_law_1045 (by decide) ?_
    exact absurd (Sum.inl.inj (zRt_of hm).1) (by decide)
set_option maxRecDepth 100000 in
set_option maxHeartbeats 4000000 in
theorem w_L_law_c18 {h : zH} {ad : Nat → Nat} {G : zG} {b N f n : Nat} {xs : Nat → Int32} {s9 : zS} {rec : Int32 → zS → Option (Int32 × zS)} {tb : List ExceptionTableEntry} (C : zCT tb h ad zLL 7 G cL_law RL wsL_law 12 428) (X : zScr ad zLL G b N xs) (hQ : zQl ad b G) (hB : zBud G (f + 1)) (ih : ∀ (G : zG) (v4 : Int32) (s : zS), zCT tb h ad zLL 7 G cL_law RL wsL_law 12 428 → zScr ad zLL G b N xs → zQl ad b G → zBud G f → rec v4 s = some (1, s9) → zV h ad zLL 7 G s 23 [(0, .ref b), (1, .ref (ad 0)), (2, .ref (ad 27)), (3, .ref (ad 46)), (4, .int v4)] []) {v4 : Int32} {s : zS} (hm : m_L_law_c18 rec n N xs v4 s = some (1, s9)) : zV h ad zLL 7 G s 1067 [(0, .ref b), (1, .ref (ad 0)), (2, .ref (ad 27)), (3, .ref (ad 46)), (4, .int v4)] [] := by
  rw [m_L_law_c18] at hm
  refine z_aload_n C dL_law_1067 rfl 1 rfl ?_
  refine z_aload_n C dL_law_1068 rfl 0 rfl ?_
  refine z_iload C dL_law_1069 4 rfl ?_
  refine z_iconst (v := (1 : Int32)) C dL_law_1071 (by decide) ?_
  refine z_iadd C dL_law_1072 ?_
  obtain ⟨x296, i_x296, e_x296, hm⟩ := zRd_of hm
  refine z_sld C X i_x296 e_x296 dL_law_1073 ?_
  refine z_aload_n C dL_law_1074 rfl 0 rfl ?_
  refine z_iload C dL_law_1075 4 rfl ?_
  refine z_iconst (v := (2 : Int32)) C dL_law_1077 (by decide) ?_
  refine z_iadd C dL_law_1078 ?_
  obtain ⟨x297, i_x297, e_x297, hm⟩ := zRd_of hm
  refine z_sld C X i_x297 e_x297 dL_law_1079 ?_
  refine z_aload_n C dL_law_1080 rfl 3 rfl ?_
  obtain ⟨x298, s299, q_s299, hm⟩ := zBd_of hm
  refine z_lS C 4 [.ref (ad 0), .int x296, .int x297, .ref (ad 46)] [] (zBud_r hB) (c_L_creditAt (zC_I C) (zC_st C) q_s299) gL_law_L_creditAt (by decide +kernel) rfl dL_law_1081 rfl ⟨Nat.le_of_ble_eq_true rfl, Nat.le_of_ble_eq_true rfl⟩ rfl (Nat.le_of_ble_eq_true rfl) ?_
  have C := zCT_p C (zBud_r hB)
  have X := zScr_p X
  have hQ := zQl_p hQ
  refine z_istore (y := x298) (lv' := [(5, .int x298), (0, .ref b), (1, .ref (ad 0)), (2, .ref (ad 27)), (3, .ref (ad 46)), (4, .int v4)]) C dL_law_1084 (by decide) rfl rfl ?_
  refine z_aload_n C dL_law_1086 rfl 3 rfl ?_
  refine z_aload_n C dL_law_1087 rfl 1 rfl ?_
  refine z_iload C dL_law_1088 5 rfl ?_
  refine z_iconst (v := (1 : Int32)) C dL_law_1090 (by decide) ?_
  refine z_iadd C dL_law_1091 ?_
  obtain ⟨x300, i_x300, e_x300, hm⟩ := zRd_of hm
  refine z_sld C X i_x300 e_x300 dL_law_1092 ?_
  refine z_aload_n C dL_law_1093 rfl 1 rfl ?_
  refine z_iload C dL_law_1094 5 rfl ?_
  refine z_iconst (v := (2 : Int32)) C dL_law_1096 (by decide) ?_
  refine z_iadd C dL_law_1097 ?_
  obtain ⟨x301, i_x301, e_x301, hm⟩ := zRd_of hm
  refine z_sld C X i_x301 e_x301 dL_law_1098 ?_
  obtain ⟨x302, s303, q_s303, hm⟩ := zBd_of hm
  obtain ⟨s304, e_s304, hm⟩ := zLt_of hm
  refine z_dV (vd := false) (Cn := RX8) (k := 0) (o := 27) C 2 [.int x300, .int x301] [] sM (c_X8_creditAt (zI_sub sM (zC_I C)) (zC_st C) q_s303) gL_law_X8_creditAt (by decide +kernel) kM0 vc8 rfl rfl dL_law_1099 rfl ⟨Nat.le_of_ble_eq_true rfl, Nat.le_of_ble_eq_true rfl⟩ rfl (Nat.le_of_ble_eq_true rfl) ?_
  rw [show zMix 27 zLM.length s299 s303 = s304 from e_s304.symm]
  refine z_istore (y := x302) (lv' := [(6, .int x302), (5, .int x298), (0, .ref b), (1, .ref (ad 0)), (2, .ref (ad 27)), (3, .ref (ad 46)), (4, .int v4)]) C dL_law_1102 (by decide) rfl rfl ?_
  refine z_aload_n C dL_law_1104 rfl 4 rfl ?_
  obtain ⟨x305, s306, q_s306, hm⟩ := zBd_of hm
  obtain ⟨s307, e_s307, hm⟩ := zLt_of hm
  refine z_dV (vd := false) (Cn := RX8) (k := 0) (o := 27) C 0 [] [] sM (c_X8_thrown (zI_sub sM (zC_I C)) (zC_st C) q_s306) gL_law_X8_thrown (by decide +kernel) kM0 vc8 rfl rfl dL_law_1105 rfl ⟨Nat.le_of_ble_eq_true rfl, Nat.le_of_ble_eq_true rfl⟩ rfl (Nat.le_of_ble_eq_true rfl) ?_
  rw [show zMix 27 zLM.length s304 s306 = s307 from e_s307.symm]
  refine z_iload C dL_law_1108 1 rfl ?_
  refine z_icmp_eq (tgt := 1115) C dL_law_1110 (by decide) (fun c308 => ?_) (fun c308 => ?_)
  · have hm := zIt hm c308
    refine z_iload C dL_law_1115 1 rfl ?_
    refine z_if_ne (tgt := 1132) C dL_law_1117 (by decide) (fun c309 => ?_) (fun c309 => ?_)
    · have hm := zIf hm c309
      refine z_goto (tgt := 1247) C dL_law_1132 (by decide) ?_
      obtain ⟨x310, e_x310, hm⟩ := zLt_of hm
      refine z_iinc (j := 6) (v := x310) (d := (5 : Int32)) (lv' := [(4, .int x310), (6, .int x302), (5, .int x298), (0, .ref b), (1, .ref (ad 0)), (2, .ref (ad 27)), (3, .ref (ad 46))]) C dL_law_1247 rfl (by decide) e_x310 (by decide) rfl ?_
      refine z_goto (tgt := 23) C dL_law_1250 (by decide) ?_
      exact z_sub [3, 4, 5, 6, 0] rfl (ih _ _ _ C X hQ (zBud_p hB) hm)
    · have hm := zIt hm c309
      refine z_aload_n C dL_law_1120 rfl 5 rfl ?_
      refine z_iconst (v := (0 : Int32)) C dL_law_1121 (by decide) ?_
      obtain ⟨x311, i_x311, e_x311, hm⟩ := zRd_of hm
      refine z_lald C kL46 i_x311 e_x311 dL_law_1122 ?_
      refine z_iload C dL_law_1123 0 rfl ?_
      refine z_i2l C dL_law_1125 ?_
      refine z_lcmp C dL_law_1126 ?_
      refine z_if_eq (tgt := 1132) C dL_law_1127 (by decide) (fun c312 => ?_) (fun c312 => ?_)
      · have hm := zIt hm c312
        refine z_goto (tgt := 1247) C dL_law_1132 (by decide) ?_
        obtain ⟨x313, e_x313, hm⟩ := zLt_of hm
        refine z_iinc (j := 6) (v := x313) (d := (5 : Int32)) (lv' := [(4, .int x313), (6, .int x302), (5, .int x298), (0, .ref b), (1, .ref (ad 0)), (2, .ref (ad 27)), (3, .ref (ad 46))]) C dL_law_1247 rfl (by decide) e_x313 (by decide) rfl ?_
        refine z_goto (tgt := 23) C dL_law_1250 (by decide) ?_
        exact z_sub [3, 4, 5, 6, 0] rfl (ih _ _ _ C X hQ (zBud_p hB) hm)
      · have hm := zIf hm c312
        refine z_iconst (v := (0 : Int32)) C dL_law_1130 (by decide) ?_
        exact absurd (Sum.inl.inj (zRt_of hm).1) (by decide)
  · have hm := zIf hm c308
    refine z_iconst (v := (0 : Int32)) C dL_law_1113 (by decide) ?_
    exact absurd (Sum.inl.inj (zRt_of hm).1) (by decide)
set_option maxRecDepth 100000 in
set_option maxHeartbeats 4000000 in
theorem w_L_law_c19 {h : zH} {ad : Nat → Nat} {G : zG} {b N f n : Nat} {xs : Nat → Int32} {s9 : zS} {rec : Int32 → zS → Option (Int32 × zS)} {tb : List ExceptionTableEntry} (C : zCT tb h ad zLL 7 G cL_law RL wsL_law 12 428) (X : zScr ad zLL G b N xs) (hQ : zQl ad b G) (hB : zBud G (f + 1)) (ih : ∀ (G : zG) (v4 : Int32) (s : zS), zCT tb h ad zLL 7 G cL_law RL wsL_law 12 428 → zScr ad zLL G b N xs → zQl ad b G → zBud G f → rec v4 s = some (1, s9) → zV h ad zLL 7 G s 23 [(0, .ref b), (1, .ref (ad 0)), (2, .ref (ad 27)), (3, .ref (ad 46)), (4, .int v4)] []) {v4 : Int32} {s : zS} (hm : m_L_law_c19 rec n N xs v4 s = some (1, s9)) : zV h ad zLL 7 G s 1135 [(0, .ref b), (1, .ref (ad 0)), (2, .ref (ad 27)), (3, .ref (ad 46)), (4, .int v4)] [] := by
  rw [m_L_law_c19] at hm
  refine z_aload_n C dL_law_1135 rfl 1 rfl ?_
  refine z_aload_n C dL_law_1136 rfl 0 rfl ?_
  refine z_iload C dL_law_1137 4 rfl ?_
  refine z_iconst (v := (1 : Int32)) C dL_law_1139 (by decide) ?_
  refine z_iadd C dL_law_1140 ?_
  obtain ⟨x315, i_x315, e_x315, hm⟩ := zRd_of hm
  refine z_sld C X i_x315 e_x315 dL_law_1141 ?_
  refine z_aload_n C dL_law_1142 rfl 3 rfl ?_
  obtain ⟨x316, s317, q_s317, hm⟩ := zBd_of hm
  refine z_lS C 3 [.ref (ad 0), .int x315, .ref (ad 46)] [] (zBud_r hB) (c_L_afterCredits (zC_I C) (zC_st C) q_s317) gL_law_L_afterCredits (by decide +kernel) rfl dL_law_1143 rfl ⟨Nat.le_of_ble_eq_true rfl, Nat.le_of_ble_eq_true rfl⟩ rfl (Nat.le_of_ble_eq_true rfl) ?_
  have C := zCT_p C (zBud_r hB)
  have X := zScr_p X
  have hQ := zQl_p hQ
  refine z_istore (y := x316) (lv' := [(5, .int x316), (0, .ref b), (1, .ref (ad 0)), (2, .ref (ad 27)), (3, .ref (ad 46)), (4, .int v4)]) C dL_law_1146 (by decide) rfl rfl ?_
  refine z_aload_n C dL_law_1148 rfl 3 rfl ?_
  refine z_aload_n C dL_law_1149 rfl 1 rfl ?_
  refine z_iload C dL_law_1150 5 rfl ?_
  refine z_iconst (v := (1 : Int32)) C dL_law_1152 (by decide) ?_
  refine z_iadd C dL_law_1153 ?_
  obtain ⟨x318, i_x318, e_x318, hm⟩ := zRd_of hm
  refine z_sld C X i_x318 e_x318 dL_law_1154 ?_
  obtain ⟨x319, s320, q_s320, hm⟩ := zBd_of hm
  obtain ⟨s321, e_s321, hm⟩ := zLt_of hm
  refine z_dV (vd := false) (Cn := RX8) (k := 0) (o := 27) C 1 [.int x318] [] sM (c_X8_afterCredits (zI_sub sM (zC_I C)) (zC_st C) q_s320) gL_law_X8_afterCredits (by decide +kernel) kM0 vc8 rfl rfl dL_law_1155 rfl ⟨Nat.le_of_ble_eq_true rfl, Nat.le_of_ble_eq_true rfl⟩ rfl (Nat.le_of_ble_eq_true rfl) ?_
  rw [show zMix 27 zLM.length s317 s320 = s321 from e_s321.symm]
  refine z_istore (y := x319) (lv' := [(6, .int x319), (5, .int x316), (0, .ref b), (1, .ref (ad 0)), (2, .ref (ad 27)), (3, .ref (ad 46)), (4, .int v4)]) C dL_law_1158 (by decide) rfl rfl ?_
  refine z_aload_n C dL_law_1160 rfl 4 rfl ?_
  obtain ⟨x322, s323, q_s323, hm⟩ := zBd_of hm
  obtain ⟨s324, e_s324, hm⟩ := zLt_of hm
  refine z_dV (vd := false) (Cn := RX8) (k := 0) (o := 27) C 0 [] [] sM (c_X8_thrown (zI_sub sM (zC_I C)) (zC_st C) q_s323) gL_law_X8_thrown (by decide +kernel) kM0 vc8 rfl rfl dL_law_1161 rfl ⟨Nat.le_of_ble_eq_true rfl, Nat.le_of_ble_eq_true rfl⟩ rfl (Nat.le_of_ble_eq_true rfl) ?_
  rw [show zMix 27 zLM.length s321 s323 = s324 from e_s324.symm]
  refine z_iload C dL_law_1164 1 rfl ?_
  refine z_icmp_eq (tgt := 1171) C dL_law_1166 (by decide) (fun c325 => ?_) (fun c325 => ?_)
  · have hm := zIt hm c325
    refine z_iload C dL_law_1171 1 rfl ?_
    refine z_if_ne (tgt := 1188) C dL_law_1173 (by decide) (fun c326 => ?_) (fun c326 => ?_)
    · have hm := zIf hm c326
      refine z_goto (tgt := 1247) C dL_law_1188 (by decide) ?_
      obtain ⟨x327, e_x327, hm⟩ := zLt_of hm
      refine z_iinc (j := 6) (v := x327) (d := (5 : Int32)) (lv' := [(4, .int x327), (6, .int x319), (5, .int x316), (0, .ref b), (1, .ref (ad 0)), (2, .ref (ad 27)), (3, .ref (ad 46))]) C dL_law_1247 rfl (by decide) e_x327 (by decide) rfl ?_
      refine z_goto (tgt := 23) C dL_law_1250 (by decide) ?_
      exact z_sub [3, 4, 5, 6, 0] rfl (ih _ _ _ C X hQ (zBud_p hB) hm)
    · have hm := zIt hm c326
      refine z_aload_n C dL_law_1176 rfl 5 rfl ?_
      refine z_iconst (v := (0 : Int32)) C dL_law_1177 (by decide) ?_
      obtain ⟨x328, i_x328, e_x328, hm⟩ := zRd_of hm
      refine z_lald C kL46 i_x328 e_x328 dL_law_1178 ?_
      refine z_iload C dL_law_1179 0 rfl ?_
      refine z_i2l C dL_law_1181 ?_
      refine z_lcmp C dL_law_1182 ?_
      refine z_if_eq (tgt := 1188) C dL_law_1183 (by decide) (fun c329 => ?_) (fun c329 => ?_)
      · have hm := zIt hm c329
        refine z_goto (tgt := 1247) C dL_law_1188 (by decide) ?_
        obtain ⟨x330, e_x330, hm⟩ := zLt_of hm
        refine z_iinc (j := 6) (v := x330) (d := (5 : Int32)) (lv' := [(4, .int x330), (6, .int x319), (5, .int x316), (0, .ref b), (1, .ref (ad 0)), (2, .ref (ad 27)), (3, .ref (ad 46))]) C dL_law_1247 rfl (by decide) e_x330 (by decide) rfl ?_
        refine z_goto (tgt := 23) C dL_law_1250 (by decide) ?_
        exact z_sub [3, 4, 5, 6, 0] rfl (ih _ _ _ C X hQ (zBud_p hB) hm)
      · have hm := zIf hm c329
        refine z_iconst (v := (0 : Int32)) C dL_law_1186 (by decide) ?_
        exact absurd (Sum.inl.inj (zRt_of hm).1) (by decide)
  · have hm := zIf hm c325
    refine z_iconst (v := (0 : Int32)) C dL_law_1169 (by decide) ?_
    exact absurd (Sum.inl.inj (zRt_of hm).1) (by decide)
set_option maxRecDepth 100000 in
set_option maxHeartbeats 4000000 in
theorem w_L_law_c20 {h : zH} {ad : Nat → Nat} {G : zG} {b N f n : Nat} {xs : Nat → Int32} {s9 : zS} {rec : Int32 → zS → Option (Int32 × zS)} {tb : List ExceptionTableEntry} (C : zCT tb h ad zLL 7 G cL_law RL wsL_law 12 428) (X : zScr ad zLL G b N xs) (hQ : zQl ad b G) (hB : zBud G (f + 1)) (ih : ∀ (G : zG) (v4 : Int32) (s : zS), zCT tb h ad zLL 7 G cL_law RL wsL_law 12 428 → zScr ad zLL G b N xs → zQl ad b G → zBud G f → rec v4 s = some (1, s9) → zV h ad zLL 7 G s 23 [(0, .ref b), (1, .ref (ad 0)), (2, .ref (ad 27)), (3, .ref (ad 46)), (4, .int v4)] []) {v4 : Int32} {s : zS} (hm : m_L_law_c20 rec n N xs v4 s = some (1, s9)) : zV h ad zLL 7 G s 1191 [(0, .ref b), (1, .ref (ad 0)), (2, .ref (ad 27)), (3, .ref (ad 46)), (4, .int v4)] [] := by
  rw [m_L_law_c20] at hm
  refine z_aload_n C dL_law_1191 rfl 1 rfl ?_
  refine z_aload_n C dL_law_1192 rfl 0 rfl ?_
  refine z_iload C dL_law_1193 4 rfl ?_
  refine z_iconst (v := (1 : Int32)) C dL_law_1195 (by decide) ?_
  refine z_iadd C dL_law_1196 ?_
  obtain ⟨x332, i_x332, e_x332, hm⟩ := zRd_of hm
  refine z_sld C X i_x332 e_x332 dL_law_1197 ?_
  refine z_aload_n C dL_law_1198 rfl 3 rfl ?_
  obtain ⟨x333, s334, q_s334, hm⟩ := zBd_of hm
  refine z_lS C 3 [.ref (ad 0), .int x332, .ref (ad 46)] [] (zBud_r hB) (c_L_bestSum (zC_I C) (zC_st C) q_s334) gL_law_L_bestSum (by decide +kernel) rfl dL_law_1199 rfl ⟨Nat.le_of_ble_eq_true rfl, Nat.le_of_ble_eq_true rfl⟩ rfl (Nat.le_of_ble_eq_true rfl) ?_
  have C := zCT_p C (zBud_r hB)
  have X := zScr_p X
  have hQ := zQl_p hQ
  refine z_istore (y := x333) (lv' := [(5, .int x333), (0, .ref b), (1, .ref (ad 0)), (2, .ref (ad 27)), (3, .ref (ad 46)), (4, .int v4)]) C dL_law_1202 (by decide) rfl rfl ?_
  refine z_aload_n C dL_law_1204 rfl 3 rfl ?_
  refine z_aload_n C dL_law_1205 rfl 1 rfl ?_
  refine z_iload C dL_law_1206 5 rfl ?_
  refine z_iconst (v := (1 : Int32)) C dL_law_1208 (by decide) ?_
  refine z_iadd C dL_law_1209 ?_
  obtain ⟨x335, i_x335, e_x335, hm⟩ := zRd_of hm
  refine z_sld C X i_x335 e_x335 dL_law_1210 ?_
  obtain ⟨x336, s337, q_s337, hm⟩ := zBd_of hm
  obtain ⟨s338, e_s338, hm⟩ := zLt_of hm
  refine z_dV (vd := false) (Cn := RX8) (k := 0) (o := 27) C 1 [.int x335] [] sM (c_X8_bestSum (zI_sub sM (zC_I C)) (zC_st C) q_s337) gL_law_X8_bestSum (by decide +kernel) kM0 vc8 rfl rfl dL_law_1211 rfl ⟨Nat.le_of_ble_eq_true rfl, Nat.le_of_ble_eq_true rfl⟩ rfl (Nat.le_of_ble_eq_true rfl) ?_
  rw [show zMix 27 zLM.length s334 s337 = s338 from e_s338.symm]
  refine z_istore (y := x336) (lv' := [(6, .int x336), (5, .int x333), (0, .ref b), (1, .ref (ad 0)), (2, .ref (ad 27)), (3, .ref (ad 46)), (4, .int v4)]) C dL_law_1214 (by decide) rfl rfl ?_
  refine z_aload_n C dL_law_1216 rfl 4 rfl ?_
  obtain ⟨x339, s340, q_s340, hm⟩ := zBd_of hm
  obtain ⟨s341, e_s341, hm⟩ := zLt_of hm
  refine z_dV (vd := false) (Cn := RX8) (k := 0) (o := 27) C 0 [] [] sM (c_X8_thrown (zI_sub sM (zC_I C)) (zC_st C) q_s340) gL_law_X8_thrown (by decide +kernel) kM0 vc8 rfl rfl dL_law_1217 rfl ⟨Nat.le_of_ble_eq_true rfl, Nat.le_of_ble_eq_true rfl⟩ rfl (Nat.le_of_ble_eq_true rfl) ?_
  rw [show zMix 27 zLM.length s338 s340 = s341 from e_s341.symm]
  refine z_iload C dL_law_1220 1 rfl ?_
  refine z_icmp_eq (tgt := 1227) C dL_law_1222 (by decide) (fun c342 => ?_) (fun c342 => ?_)
  · have hm := zIt hm c342
    refine z_iload C dL_law_1227 1 rfl ?_
    refine z_if_ne (tgt := 1244) C dL_law_1229 (by decide) (fun c343 => ?_) (fun c343 => ?_)
    · have hm := zIf hm c343
      refine z_goto (tgt := 1247) C dL_law_1244 (by decide) ?_
      obtain ⟨x344, e_x344, hm⟩ := zLt_of hm
      refine z_iinc (j := 6) (v := x344) (d := (5 : Int32)) (lv' := [(4, .int x344), (6, .int x336), (5, .int x333), (0, .ref b), (1, .ref (ad 0)), (2, .ref (ad 27)), (3, .ref (ad 46))]) C dL_law_1247 rfl (by decide) e_x344 (by decide) rfl ?_
      refine z_goto (tgt := 23) C dL_law_1250 (by decide) ?_
      exact z_sub [3, 4, 5, 6, 0] rfl (ih _ _ _ C X hQ (zBud_p hB) hm)
    · have hm := zIt hm c343
      refine z_aload_n C dL_law_1232 rfl 5 rfl ?_
      refine z_iconst (v := (0 : Int32)) C dL_law_1233 (by decide) ?_
      obtain ⟨x345, i_x345, e_x345, hm⟩ := zRd_of hm
      refine z_lald C kL46 i_x345 e_x345 dL_law_1234 ?_
      refine z_iload C dL_law_1235 0 rfl ?_
      refine z_i2l C dL_law_1237 ?_
      refine z_lcmp C dL_law_1238 ?_
      refine z_if_eq (tgt := 1244) C dL_law_1239 (by decide) (fun c346 => ?_) (fun c346 => ?_)
      · have hm := zIt hm c346
        refine z_goto (tgt := 1247) C dL_law_1244 (by decide) ?_
        obtain ⟨x347, e_x347, hm⟩ := zLt_of hm
        refine z_iinc (j := 6) (v := x347) (d := (5 : Int32)) (lv' := [(4, .int x347), (6, .int x336), (5, .int x333), (0, .ref b), (1, .ref (ad 0)), (2, .ref (ad 27)), (3, .ref (ad 46))]) C dL_law_1247 rfl (by decide) e_x347 (by decide) rfl ?_
        refine z_goto (tgt := 23) C dL_law_1250 (by decide) ?_
        exact z_sub [3, 4, 5, 6, 0] rfl (ih _ _ _ C X hQ (zBud_p hB) hm)
      · have hm := zIf hm c346
        refine z_iconst (v := (0 : Int32)) C dL_law_1242 (by decide) ?_
        exact absurd (Sum.inl.inj (zRt_of hm).1) (by decide)
  · have hm := zIf hm c342
    refine z_iconst (v := (0 : Int32)) C dL_law_1225 (by decide) ?_
    exact absurd (Sum.inl.inj (zRt_of hm).1) (by decide)
set_option maxRecDepth 100000 in
set_option maxHeartbeats 4000000 in
theorem w_L_law_j23 {tb : List ExceptionTableEntry} {h : zH} {ad : Nat → Nat} {b N n : Nat} {xs : Nat → Int32} {s9 : zS} : ∀ (f : Nat) (G : zG) (v4 : Int32) (s : zS), zCT tb h ad zLL 7 G cL_law RL wsL_law 12 428 → zScr ad zLL G b N xs → zQl ad b G → zBud G f → m_L_law_j23 n N xs f v4 s = some (1, s9) → zV h ad zLL 7 G s 23 [(0, .ref b), (1, .ref (ad 0)), (2, .ref (ad 27)), (3, .ref (ad 46)), (4, .int v4)] [] := by
  intro f
  induction f with
  | zero => intro G v4 s C X hQ hB hm; simp [m_L_law_j23] at hm
  | succ f ih =>
    intro G v4 s C X hQ hB hm
    rw [m_L_law_j23] at hm
    refine z_iload C dL_law_23 4 rfl ?_
    refine z_aload_n C dL_law_25 rfl 0 rfl ?_
    refine z_slen C X dL_law_26 ?_
    refine z_iconst (v := (5 : Int32)) C dL_law_27 (by decide) ?_
    refine z_isub C dL_law_28 ?_
    refine z_icmp_gt (tgt := 1253) C dL_law_29 (by decide) (fun c1 => ?_) (fun c1 => ?_)
    · have hm := zIt hm c1
      refine z_iconst (v := (1 : Int32)) C dL_law_1253 (by decide) ?_
      exact z_lret C hQ dL_law_1254
    · have hm := zIf hm c1
      refine z_aload_n C dL_law_32 rfl 0 rfl ?_
      refine z_iload C dL_law_33 4 rfl ?_
      obtain ⟨x2, i_x2, e_x2, hm⟩ := zRd_of hm
      refine z_sld C X i_x2 e_x2 dL_law_35 ?_
      refine z_bipush (v := (31 : Int32)) C dL_law_36 (by decide) ?_
      refine z_iand C dL_law_38 ?_
      obtain ⟨x3, e_x3, hm⟩ := zLt_of hm
      rw [← e_x3]
      by_cases c4 : x3 = (0 : Int32)
      · have hm := zIt hm c4
        refine z_tableIn (off := 97) (tgt := 136) C dL_law_39 (by rw [c4]; decide) (by rw [c4]; decide) (by rw [c4]; decide) (by decide) ?_
        exact w_L_law_c0 C X hQ hB ih hm
      have hm := zIf hm c4
      by_cases c23 : x3 = (1 : Int32)
      · have hm := zIt hm c23
        refine z_tableIn (off := 169) (tgt := 208) C dL_law_39 (by rw [c23]; decide) (by rw [c23]; decide) (by rw [c23]; decide) (by decide) ?_
        exact w_L_law_c1 C X hQ hB ih hm
      have hm := zIf hm c23
      by_cases c42 : x3 = (2 : Int32)
      · have hm := zIt hm c42
        refine z_tableIn (off := 237) (tgt := 276) C dL_law_39 (by rw [c42]; decide) (by rw [c42]; decide) (by rw [c42]; decide) (by decide) ?_
        exact w_L_law_c2 C X hQ hB ih hm
      have hm := zIf hm c42
      by_cases c59 : x3 = (3 : Int32)
      · have hm := zIt hm c59
        refine z_tableIn (off := 293) (tgt := 332) C dL_law_39 (by rw [c59]; decide) (by rw [c59]; decide) (by rw [c59]; decide) (by decide) ?_
        exact w_L_law_c3 C X hQ hB ih hm
      have hm := zIf hm c59
      by_cases c76 : x3 = (4 : Int32)
      · have hm := zIt hm c76
        refine z_tableIn (off := 349) (tgt := 388) C dL_law_39 (by rw [c76]; decide) (by rw [c76]; decide) (by rw [c76]; decide) (by decide) ?_
        exact w_L_law_c4 C X hQ hB ih hm
      have hm := zIf hm c76
      by_cases c95 : x3 = (5 : Int32)
      · have hm := zIt hm c95
        refine z_tableIn (off := 417) (tgt := 456) C dL_law_39 (by rw [c95]; decide) (by rw [c95]; decide) (by rw [c95]; decide) (by decide) ?_
        exact w_L_law_c5 C X hQ hB ih hm
      have hm := zIf hm c95
      by_cases c117 : x3 = (6 : Int32)
      · have hm := zIt hm c117
        refine z_tableIn (off := 492) (tgt := 531) C dL_law_39 (by rw [c117]; decide) (by rw [c117]; decide) (by rw [c117]; decide) (by decide) ?_
        exact w_L_law_c6 C X hQ hB ih hm
      have hm := zIf hm c117
      by_cases c134 : x3 = (7 : Int32)
      · have hm := zIt hm c134
        refine z_tableIn (off := 548) (tgt := 587) C dL_law_39 (by rw [c134]; decide) (by rw [c134]; decide) (by rw [c134]; decide) (by decide) ?_
        exact w_L_law_c7 C X hQ hB ih hm
      have hm := zIf hm c134
      by_cases c153 : x3 = (8 : Int32)
      · have hm := zIt hm c153
        refine z_tableIn (off := 616) (tgt := 655) C dL_law_39 (by rw [c153]; decide) (by rw [c153]; decide) (by rw [c153]; decide) (by decide) ?_
        exact w_L_law_c8 C X hQ hB ih hm
      have hm := zIf hm c153
      by_cases c172 : x3 = (9 : Int32)
      · have hm := zIt hm c172
        refine z_tableIn (off := 684) (tgt := 723) C dL_law_39 (by rw [c172]; decide) (by rw [c172]; decide) (by rw [c172]; decide) (by decide) ?_
        exact w_L_law_c9 C X hQ hB ih hm
      have hm := zIf hm c172
      by_cases c181 : x3 = (10 : Int32)
      · have hm := zIt hm c181
        refine z_tableIn (off := 697) (tgt := 736) C dL_law_39 (by rw [c181]; decide) (by rw [c181]; decide) (by rw [c181]; decide) (by decide) ?_
        exact w_L_law_c10 C X hQ hB ih hm
      have hm := zIf hm c181
      by_cases c198 : x3 = (11 : Int32)
      · have hm := zIt hm c198
        refine z_tableIn (off := 753) (tgt := 792) C dL_law_39 (by rw [c198]; decide) (by rw [c198]; decide) (by rw [c198]; decide) (by decide) ?_
        exact w_L_law_c11 C X hQ hB ih hm
      have hm := zIf hm c198
      by_cases c217 : x3 = (12 : Int32)
      · have hm := zIt hm c217
        refine z_tableIn (off := 821) (tgt := 860) C dL_law_39 (by rw [c217]; decide) (by rw [c217]; decide) (by rw [c217]; decide) (by decide) ?_
        exact w_L_law_c12 C X hQ hB ih hm
      have hm := zIf hm c217
      by_cases c226 : x3 = (13 : Int32)
      · have hm := zIt hm c226
        refine z_tableIn (off := 834) (tgt := 873) C dL_law_39 (by rw [c226]; decide) (by rw [c226]; decide) (by rw [c226]; decide) (by decide) ?_
        exact w_L_law_c13 C X hQ hB ih hm
      have hm := zIf hm c226
      by_cases c243 : x3 = (14 : Int32)
      · have hm := zIt hm c243
        refine z_tableIn (off := 890) (tgt := 929) C dL_law_39 (by rw [c243]; decide) (by rw [c243]; decide) (by rw [c243]; decide) (by decide) ?_
        exact w_L_law_c14 C X hQ hB ih hm
      have hm := zIf hm c243
      by_cases c252 : x3 = (15 : Int32)
      · have hm := zIt hm c252
        refine z_tableIn (off := 903) (tgt := 942) C dL_law_39 (by rw [c252]; decide) (by rw [c252]; decide) (by rw [c252]; decide) (by decide) ?_
        exact w_L_law_c15 C X hQ hB ih hm
      have hm := zIf hm c252
      by_cases c261 : x3 = (16 : Int32)
      · have hm := zIt hm c261
        refine z_tableIn (off := 916) (tgt := 955) C dL_law_39 (by rw [c261]; decide) (by rw [c261]; decide) (by rw [c261]; decide) (by decide) ?_
        exact w_L_law_c16 C X hQ hB ih hm
      have hm := zIf hm c261
      by_cases c280 : x3 = (17 : Int32)
      · have hm := zIt hm c280
        refine z_tableIn (off := 984) (tgt := 1023) C dL_law_39 (by rw [c280]; decide) (by rw [c280]; decide) (by rw [c280]; decide) (by decide) ?_
        exact w_L_law_c17 C X hQ hB ih hm
      have hm := zIf hm c280
      by_cases c295 : x3 = (18 : Int32)
      · have hm := zIt hm c295
        refine z_tableIn (off := 1028) (tgt := 1067) C dL_law_39 (by rw [c295]; decide) (by rw [c295]; decide) (by rw [c295]; decide) (by decide) ?_
        exact w_L_law_c18 C X hQ hB ih hm
      have hm := zIf hm c295
      by_cases c314 : x3 = (19 : Int32)
      · have hm := zIt hm c314
        refine z_tableIn (off := 1096) (tgt := 1135) C dL_law_39 (by rw [c314]; decide) (by rw [c314]; decide) (by rw [c314]; decide) (by decide) ?_
        exact w_L_law_c19 C X hQ hB ih hm
      have hm := zIf hm c314
      by_cases c331 : x3 = (20 : Int32)
      · have hm := zIt hm c331
        refine z_tableIn (off := 1152) (tgt := 1191) C dL_law_39 (by rw [c331]; decide) (by rw [c331]; decide) (by rw [c331]; decide) (by decide) ?_
        exact w_L_law_c20 C X hQ hB ih hm
      have hm := zIf hm c331
      have t_c4 := z_ne (n := 0) c4 (by decide)
      have t_c23 := z_ne (n := 1) c23 (by decide)
      have t_c42 := z_ne (n := 2) c42 (by decide)
      have t_c59 := z_ne (n := 3) c59 (by decide)
      have t_c76 := z_ne (n := 4) c76 (by decide)
      have t_c95 := z_ne (n := 5) c95 (by decide)
      have t_c117 := z_ne (n := 6) c117 (by decide)
      have t_c134 := z_ne (n := 7) c134 (by decide)
      have t_c153 := z_ne (n := 8) c153 (by decide)
      have t_c172 := z_ne (n := 9) c172 (by decide)
      have t_c181 := z_ne (n := 10) c181 (by decide)
      have t_c198 := z_ne (n := 11) c198 (by decide)
      have t_c217 := z_ne (n := 12) c217 (by decide)
      have t_c226 := z_ne (n := 13) c226 (by decide)
      have t_c243 := z_ne (n := 14) c243 (by decide)
      have t_c252 := z_ne (n := 15) c252 (by decide)
      have t_c261 := z_ne (n := 16) c261 (by decide)
      have t_c280 := z_ne (n := 17) c280 (by decide)
      have t_c295 := z_ne (n := 18) c295 (by decide)
      have t_c314 := z_ne (n := 19) c314 (by decide)
      have t_c331 := z_ne (n := 20) c331 (by decide)
      refine z_tableOut (tgt := 1247) C dL_law_39 (by omega) (by decide) ?_
      obtain ⟨x348, e_x348, hm⟩ := zLt_of hm
      refine z_iinc (j := 4) (v := x348) (d := (5 : Int32)) (lv' := [(4, .int x348), (0, .ref b), (1, .ref (ad 0)), (2, .ref (ad 27)), (3, .ref (ad 46))]) C dL_law_1247 rfl (by decide) e_x348 (by decide) rfl ?_
      refine z_goto (tgt := 23) C dL_law_1250 (by decide) ?_
      exact z_sub [1, 2, 3, 4, 0] rfl (ih _ _ _ C X hQ (zBud_s hB) hm)
