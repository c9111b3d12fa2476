/-! the words of the law lie in the tables -/
set_option maxRecDepth 20000 in
theorem tb_wsX00 : ∀ w ∈ wsX00, w ∈ lw_tbl := by decide +kernel
set_option maxRecDepth 20000 in
theorem tb_wsX10 : ∀ w ∈ wsX10, w ∈ lw_tbl := by decide +kernel
set_option maxRecDepth 20000 in
theorem tb_wsX20 : ∀ w ∈ wsX20, w ∈ lw_tbl := by decide +kernel
set_option maxRecDepth 20000 in
theorem tb_wsX30 : ∀ w ∈ wsX30, w ∈ lw_tbl := by decide +kernel
set_option maxRecDepth 20000 in
theorem tb_wsX40 : ∀ w ∈ wsX40, w ∈ lw_tbl := by decide +kernel
set_option maxRecDepth 20000 in
theorem tb_wsX50 : ∀ w ∈ wsX50, w ∈ lw_tbl := by decide +kernel
set_option maxRecDepth 20000 in
theorem tb_wsX60 : ∀ w ∈ wsX60, w ∈ lw_tbl := by decide +kernel
set_option maxRecDepth 20000 in
theorem tb_wsX70 : ∀ w ∈ wsX70, w ∈ lw_tbl := by decide +kernel
set_option maxRecDepth 20000 in
theorem tb_at0 : ∀ w ∈ (vx_at0 RX7 198 "java/lang/IndexOutOfBoundsException" ["java/lang/RuntimeException", "java/lang/Exception"]).filter goodWord, w ∈ lw_tbl := by decide +kernel
set_option maxRecDepth 20000 in
theorem tb_at1 : ∀ w ∈ (vx_at0 RX7 201 "java/lang/IllegalArgumentException" ["java/lang/RuntimeException", "java/lang/Exception"]).filter goodWord, w ∈ lw_tbl := by decide +kernel
set_option maxRecDepth 20000 in
theorem tb_at2 : ∀ w ∈ (vx_at0 RX7 102 "java/lang/IllegalStateException" ["java/lang/RuntimeException", "java/lang/Exception"]).filter goodWord, w ∈ lw_tbl := by decide +kernel
set_option maxRecDepth 20000 in
theorem tb_wsX7_init_r1 : ∀ w ∈ wsX7_init_r1, w ∈ lw_tbl := fun w h => (goodIn_p wsX7_init_r1 [43] (by decide +kernel) (by decide +kernel) w h).1
set_option maxRecDepth 20000 in
theorem tb_wsX7_init_r2 : ∀ w ∈ wsX7_init_r2, w ∈ lw_tbl := fun w h => (goodIn_p wsX7_init_r2 [48, 68, 96] (by decide +kernel) (by decide +kernel) w h).1
set_option maxRecDepth 20000 in
theorem tb_wsX7_init_r3 : ∀ w ∈ wsX7_init_r3, w ∈ lw_tbl := fun w h => (goodIn_p wsX7_init_r3 [112, 131, 153] (by decide +kernel) (by decide +kernel) w h).1
set_option maxRecDepth 20000 in
theorem tb_wsX7_init_r4 : ∀ w ∈ wsX7_init_r4, w ∈ lw_tbl := fun w h => (goodIn_p wsX7_init_r4 [178, 193, 197, 201, 205] (by decide +kernel) (by decide +kernel) w h).1
set_option maxRecDepth 20000 in
theorem tb_wsX7_init_r5 : ∀ w ∈ wsX7_init_r5, w ∈ lw_tbl := fun w h => (goodIn_p wsX7_init_r5 [208, 211, 215, 218, 221, 225, 228, 232] (by decide +kernel) (by decide +kernel) w h).1
set_option maxRecDepth 20000 in
theorem tb_wsX7_init_r6 : ∀ w ∈ wsX7_init_r6, w ∈ lw_tbl := fun w h => (goodIn_p wsX7_init_r6 [236, 241, 247, 251, 255, 259] (by decide +kernel) (by decide +kernel) w h).1
set_option maxRecDepth 20000 in
theorem tb_wsX7_init_r7 : ∀ w ∈ wsX7_init_r7, w ∈ lw_tbl := fun w h => (goodIn_p wsX7_init_r7 [263, 267, 273] (by decide +kernel) (by decide +kernel) w h).1
set_option maxRecDepth 20000 in
theorem tbh_wsX7_init : Cond.code yX7_init cX7_init 1 none ∈ lw_tbl := by
  have h : Cond.code yX7_init cX7_init 1 none ∈ tables_1_1 := List.mem_of_getElem? (i := 21) rfl
  exact List.mem_append_right _ (show Cond.code yX7_init cX7_init 1 none ∈ tables_1 from (List.mem_append_left _ h))
theorem tb_wsX7_init : ∀ w ∈ wsX7_init, w ∈ lw_tbl := fun w h => (List.mem_cons.mp h).elim (fun e => e ▸ tbh_wsX7_init) ((fun h => (List.mem_append.mp h).elim (fun h => (List.mem_append.mp h).elim (fun h => (List.mem_append.mp h).elim (fun h => (List.mem_append.mp h).elim (fun h => (List.mem_append.mp h).elim (fun h => (List.mem_append.mp h).elim (fun h => (List.mem_append.mp h).elim (fun h => (List.mem_append.mp h).elim (fun h => (List.mem_append.mp h).elim (tb_wsX7_init_r1 w) (fun h => (List.mem_append.mp h).elim (tb_wsX7_init_r2 w) (fun h => (List.mem_append.mp h).elim (tb_wsX7_init_r3 w) (fun h => (List.mem_append.mp h).elim (tb_wsX7_init_r4 w) (fun h => (List.mem_append.mp h).elim (tb_wsX7_init_r5 w) (fun h => (List.mem_append.mp h).elim (tb_wsX7_init_r6 w) (tb_wsX7_init_r7 w))))))) (tb_wsX50 w)) (tb_wsX70 w)) (tb_wsX40 w)) (tb_wsX10 w)) (tb_wsX00 w)) (tb_wsX20 w)) (tb_wsX60 w)) (tb_wsX30 w)))
set_option maxRecDepth 20000 in
theorem tb_lit0 : ∀ w ∈ ([.fieldLink RX7 26 "TaxEngine" "brackets" "LTaxEngine$Brackets;", .methodLink RX7 149 yX1_size, .instanceMethod yX1_size, .selects RX1 yX1_size yX1_size, .initialized RX1, .code yX1_size cX1_size 1 (some .int), .fieldLink RX1 18 "TaxEngine$Brackets" "count" "I", .methodLink RX7 153 yX1_clear, .instanceMethod yX1_clear, .selects RX1 yX1_clear yX1_clear, .code yX1_clear cX1_clear 1 none] : List Cond), w ∈ lw_tbl := fun w h => (goodIn_p ([.fieldLink RX7 26 "TaxEngine" "brackets" "LTaxEngine$Brackets;", .methodLink RX7 149 yX1_size, .instanceMethod yX1_size, .selects RX1 yX1_size yX1_size, .initialized RX1, .code yX1_size cX1_size 1 (some .int), .fieldLink RX1 18 "TaxEngine$Brackets" "count" "I", .methodLink RX7 153 yX1_clear, .instanceMethod yX1_clear, .selects RX1 yX1_clear yX1_clear, .code yX1_clear cX1_clear 1 none] : List Cond) [592, 715] (by decide +kernel) (by decide +kernel) w h).1
set_option maxRecDepth 20000 in
theorem tbh_wsX7_dropBrackets : Cond.code yX7_dropBrackets cX7_dropBrackets 2 (some .int) ∈ lw_tbl := by
  have h : Cond.code yX7_dropBrackets cX7_dropBrackets 2 (some .int) ∈ tables_1_3 := List.mem_of_getElem? (i := 212) rfl
  exact List.mem_append_right _ (show Cond.code yX7_dropBrackets cX7_dropBrackets 2 (some .int) ∈ tables_1 from (List.mem_append_right _ (List.mem_append_right _ h)))
theorem tb_wsX7_dropBrackets : ∀ w ∈ wsX7_dropBrackets, w ∈ lw_tbl := fun w h => (List.mem_cons.mp h).elim (fun e => e ▸ tbh_wsX7_dropBrackets) ((fun h => (List.mem_append.mp h).elim (fun h => (List.mem_append.mp h).elim (tb_lit0 w) (tb_wsX70 w)) (tb_wsX10 w)))
set_option maxRecDepth 20000 in
theorem tb_wsX7_closeYear_r1 : ∀ w ∈ wsX7_closeYear_r1, w ∈ lw_tbl := fun w h => (goodIn_p wsX7_closeYear_r1 [458, 462, 208] (by decide +kernel) (by decide +kernel) w h).1
set_option maxRecDepth 20000 in
theorem tb_wsX7_closeYear_r2 : ∀ w ∈ wsX7_closeYear_r2, w ∈ lw_tbl := fun w h => (goodIn_p wsX7_closeYear_r2 [205, 255, 232, 236, 218, 468] (by decide +kernel) (by decide +kernel) w h).1
set_option maxRecDepth 20000 in
theorem tb_wsX7_closeYear_r3 : ∀ w ∈ wsX7_closeYear_r3, w ∈ lw_tbl := fun w h => (goodIn_p wsX7_closeYear_r3 [215, 473, 478, 228, 251, 483] (by decide +kernel) (by decide +kernel) w h).1
set_option maxRecDepth 20000 in
theorem tb_wsX7_closeYear_r4 : ∀ w ∈ wsX7_closeYear_r4, w ∈ lw_tbl := fun w h => (goodIn_p wsX7_closeYear_r4 [490, 495, 498, 225, 501] (by decide +kernel) (by decide +kernel) w h).1
set_option maxRecDepth 20000 in
theorem tb_wsX7_closeYear_r5 : ∀ w ∈ wsX7_closeYear_r5, w ∈ lw_tbl := fun w h => (goodIn_p wsX7_closeYear_r5 [506, 514, 518, 446] (by decide +kernel) (by decide +kernel) w h).1
set_option maxRecDepth 20000 in
theorem tb_wsX7_closeYear_r6 : ∀ w ∈ wsX7_closeYear_r6, w ∈ lw_tbl := fun w h => (goodIn_p wsX7_closeYear_r6 [731, 736, 617] (by decide +kernel) (by decide +kernel) w h).1
set_option maxRecDepth 20000 in
theorem tbh_wsX7_closeYear : Cond.code yX7_closeYear cX7_closeYear 3 (some .int) ∈ lw_tbl := by
  have h : Cond.code yX7_closeYear cX7_closeYear 3 (some .int) ∈ tables_1_3 := List.mem_of_getElem? (i := 228) rfl
  exact List.mem_append_right _ (show Cond.code yX7_closeYear cX7_closeYear 3 (some .int) ∈ tables_1 from (List.mem_append_right _ (List.mem_append_right _ h)))
theorem tb_wsX7_closeYear : ∀ w ∈ wsX7_closeYear, w ∈ lw_tbl := fun w h => (List.mem_cons.mp h).elim (fun e => e ▸ tbh_wsX7_closeYear) ((fun h => (List.mem_append.mp h).elim (fun h => (List.mem_append.mp h).elim (fun h => (List.mem_append.mp h).elim (fun h => (List.mem_append.mp h).elim (fun h => (List.mem_append.mp h).elim (fun h => (List.mem_append.mp h).elim (fun h => (List.mem_append.mp h).elim (tb_wsX7_closeYear_r1 w) (fun h => (List.mem_append.mp h).elim (tb_wsX7_closeYear_r2 w) (fun h => (List.mem_append.mp h).elim (tb_wsX7_closeYear_r3 w) (fun h => (List.mem_append.mp h).elim (tb_wsX7_closeYear_r4 w) (fun h => (List.mem_append.mp h).elim (tb_wsX7_closeYear_r5 w) (tb_wsX7_closeYear_r6 w)))))) (tb_wsX70 w)) (tb_wsX60 w)) (tb_wsX40 w)) (tb_wsX50 w)) (tb_wsX10 w)) (tb_wsX00 w)))
