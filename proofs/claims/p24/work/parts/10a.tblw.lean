/-! the words of 'refuses', and of the law itself, lie in the tables -/
set_option maxRecDepth 20000 in
theorem tb_wsL_refuses_r1 : ∀ w ∈ wsL_refuses_r1, w ∈ lw_tbl := fun w h => (goodIn_p wsL_refuses_r1 [696, 605, 700, 514] (by decide +kernel) (by decide +kernel) w h).1
set_option maxRecDepth 20000 in
theorem tb_wsL_refuses_r2 : ∀ w ∈ wsL_refuses_r2, w ∈ lw_tbl := fun w h => (goodIn_p wsL_refuses_r2 [518, 208, 454, 306, 309, 312] (by decide +kernel) (by decide +kernel) w h).1
set_option maxRecDepth 20000 in
theorem tb_wsL_refuses_r3 : ∀ w ∈ wsL_refuses_r3, w ∈ lw_tbl := fun w h => (goodIn_p wsL_refuses_r3 [458, 462, 205, 255] (by decide +kernel) (by decide +kernel) w h).1
set_option maxRecDepth 20000 in
theorem tb_wsL_refuses_r4 : ∀ w ∈ wsL_refuses_r4, w ∈ lw_tbl := fun w h => (goodIn_p wsL_refuses_r4 [232, 236, 218, 468, 215, 473] (by decide +kernel) (by decide +kernel) w h).1
set_option maxRecDepth 20000 in
theorem tb_wsL_refuses_r5 : ∀ w ∈ wsL_refuses_r5, w ∈ lw_tbl := fun w h => (goodIn_p wsL_refuses_r5 [478, 228, 251, 483, 490] (by decide +kernel) (by decide +kernel) w h).1
set_option maxRecDepth 20000 in
theorem tb_wsL_refuses_r6 : ∀ w ∈ wsL_refuses_r6, w ∈ lw_tbl := fun w h => (goodIn_p wsL_refuses_r6 [495, 498, 225, 501, 506] (by decide +kernel) (by decide +kernel) w h).1
set_option maxRecDepth 20000 in
theorem tb_wsL_refuses_r7 : ∀ w ∈ wsL_refuses_r7, w ∈ lw_tbl := fun w h => (goodIn_p wsL_refuses_r7 [446, 392] (by decide +kernel) (by decide +kernel) w h).1
set_option maxRecDepth 20000 in
theorem tb_wsL_refuses_r8 : ∀ w ∈ wsL_refuses_r8, w ∈ lw_tbl := fun w h => (goodIn_p wsL_refuses_r8 [211, 221, 397, 418, 193] (by decide +kernel) (by decide +kernel) w h).1
set_option maxRecDepth 20000 in
theorem tb_wsL_refuses_r9 : ∀ w ∈ wsL_refuses_r9, w ∈ lw_tbl := fun w h => (goodIn_p wsL_refuses_r9 [197, 201, 241, 247] (by decide +kernel) (by decide +kernel) w h).1
set_option maxRecDepth 20000 in
theorem tb_wsL_refuses_r10 : ∀ w ∈ wsL_refuses_r10, w ∈ lw_tbl := fun w h => (goodIn_p wsL_refuses_r10 [259, 263, 267, 273] (by decide +kernel) (by decide +kernel) w h).1
set_option maxRecDepth 20000 in
theorem tb_wsL_refuses_r11 : ∀ w ∈ wsL_refuses_r11, w ∈ lw_tbl := fun w h => (goodIn_p wsL_refuses_r11 [441, 450, 303, 525, 529, 533] (by decide +kernel) (by decide +kernel) w h).1
set_option maxRecDepth 20000 in
theorem tb_wsL_refuses_r12 : ∀ w ∈ wsL_refuses_r12, w ∈ lw_tbl := fun w h => (goodIn_p wsL_refuses_r12 [380, 539, 543, 547] (by decide +kernel) (by decide +kernel) w h).1
set_option maxRecDepth 20000 in
theorem tb_wsL_refuses_r13 : ∀ w ∈ wsL_refuses_r13, w ∈ lw_tbl := fun w h => (goodIn_p wsL_refuses_r13 [551, 559, 567, 571] (by decide +kernel) (by decide +kernel) w h).1
set_option maxRecDepth 20000 in
theorem tb_wsL_refuses_r14 : ∀ w ∈ wsL_refuses_r14, w ∈ lw_tbl := fun w h => (goodIn_p wsL_refuses_r14 [575, 579, 583, 587, 592, 596] (by decide +kernel) (by decide +kernel) w h).1
set_option maxRecDepth 20000 in
theorem tb_wsL_refuses_r15 : ∀ w ∈ wsL_refuses_r15, w ∈ lw_tbl := fun w h => (goodIn_p wsL_refuses_r15 [601, 609, 613, 617, 623] (by decide +kernel) (by decide +kernel) w h).1
set_option maxRecDepth 20000 in
theorem tb_wsL_refuses_r16 : ∀ w ∈ wsL_refuses_r16, w ∈ lw_tbl := fun w h => (goodIn_p wsL_refuses_r16 [628, 632, 636, 641, 645] (by decide +kernel) (by decide +kernel) w h).1
set_option maxRecDepth 20000 in
theorem tb_wsL_refuses_r17 : ∀ w ∈ wsL_refuses_r17, w ∈ lw_tbl := fun w h => (goodIn_p wsL_refuses_r17 [649, 653, 657, 664, 668] (by decide +kernel) (by decide +kernel) w h).1
set_option maxRecDepth 20000 in
theorem tb_wsL_refuses_r18 : ∀ w ∈ wsL_refuses_r18, w ∈ lw_tbl := fun w h => (goodIn_p wsL_refuses_r18 [672, 676, 680, 684, 689] (by decide +kernel) (by decide +kernel) w h).1
set_option maxRecDepth 20000 in
theorem tbh_wsL_refuses : Cond.code yL_refuses cL_refuses 12 (some .boolean) ∈ lw_tbl := by
  have h : Cond.code yL_refuses cL_refuses 12 (some .boolean) ∈ tables_1_3 := List.mem_of_getElem? (i := 193) rfl
  exact List.mem_append_right _ (show Cond.code yL_refuses cL_refuses 12 (some .boolean) ∈ tables_1 from (List.mem_append_right _ (List.mem_append_right _ h)))
theorem tb_wsL_refuses : ∀ w ∈ wsL_refuses, w ∈ lw_tbl := fun w h => (List.mem_cons.mp h).elim (fun e => e ▸ tbh_wsL_refuses) ((fun h => (List.mem_append.mp h).elim (fun h => (List.mem_append.mp h).elim (fun h => (List.mem_append.mp h).elim (fun h => (List.mem_append.mp h).elim (fun h => (List.mem_append.mp h).elim (fun h => (List.mem_append.mp h).elim (fun h => (List.mem_append.mp h).elim (fun h => (List.mem_append.mp h).elim (fun h => (List.mem_append.mp h).elim (fun h => (List.mem_append.mp h).elim (fun h => (List.mem_append.mp h).elim (fun h => (List.mem_append.mp h).elim (tb_wsL_refuses_r1 w) (fun h => (List.mem_append.mp h).elim (tb_wsL_refuses_r2 w) (fun h => (List.mem_append.mp h).elim (tb_wsL_refuses_r3 w) (fun h => (List.mem_append.mp h).elim (tb_wsL_refuses_r4 w) (fun h => (List.mem_append.mp h).elim (tb_wsL_refuses_r5 w) (fun h => (List.mem_append.mp h).elim (tb_wsL_refuses_r6 w) (fun h => (List.mem_append.mp h).elim (tb_wsL_refuses_r7 w) (fun h => (List.mem_append.mp h).elim (tb_wsL_refuses_r8 w) (fun h => (List.mem_append.mp h).elim (tb_wsL_refuses_r9 w) (fun h => (List.mem_append.mp h).elim (tb_wsL_refuses_r10 w) (fun h => (List.mem_append.mp h).elim (tb_wsL_refuses_r11 w) (fun h => (List.mem_append.mp h).elim (tb_wsL_refuses_r12 w) (fun h => (List.mem_append.mp h).elim (tb_wsL_refuses_r13 w) (fun h => (List.mem_append.mp h).elim (tb_wsL_refuses_r14 w) (fun h => (List.mem_append.mp h).elim (tb_wsL_refuses_r15 w) (fun h => (List.mem_append.mp h).elim (tb_wsL_refuses_r16 w) (fun h => (List.mem_append.mp h).elim (tb_wsL_refuses_r17 w) (tb_wsL_refuses_r18 w)))))))))))))))))) (tb_wsX70 w)) (tb_wsX00 w)) (tb_wsX60 w)) (tb_wsX40 w)) (tb_wsX50 w)) (tb_wsX10 w)) (tb_wsX30 w)) (tb_wsX20 w)) (tb_at0 w)) (tb_at2 w)) (tb_at1 w)))
set_option maxRecDepth 20000 in
theorem tb_wqH : ∀ w ∈ wqH, w ∈ lw_tbl := by decide +kernel
theorem tb_wqE : ∀ w ∈ wqE, w ∈ lw_tbl := fun w h => (List.mem_append.mp h).elim (tb_wqH w) (fun h => (List.mem_append.mp h).elim (tb_wsX70 w) (fun h => (List.mem_append.mp h).elim (tb_wsX7_init w) (fun h => (List.mem_append.mp h).elim (tb_wsX7_dropBrackets w) (fun h => (List.mem_append.mp h).elim (tb_wsX7_closeYear w) (tb_wsL_refuses w)))))
def wqT : List Cond := [.methodLink RL 103 yL_lines, .static yL_lines, .initialized yL_lines.cls, .methodLink RL 107 yL_circles, .static yL_circles, .initialized yL_circles.cls, .methodLink RL 110 yL_years, .static yL_years, .initialized yL_years.cls, .code yL_lines cL_lines 2 (some .boolean), .code yL_circles cL_circles 1 (some .boolean), .code yL_years cL_years 2 (some .boolean)]
def wqL : List Cond := wqT ++ wqE
set_option maxRecDepth 20000 in
theorem tb_T1 : ∀ w ∈ ([.methodLink RL 103 yL_lines, .static yL_lines, .initialized yL_lines.cls, .methodLink RL 107 yL_circles, .static yL_circles, .initialized yL_circles.cls, .methodLink RL 110 yL_years, .static yL_years, .initialized yL_years.cls] : List Cond), w ∈ lw_tbl := by decide +kernel
set_option maxRecDepth 20000 in
theorem tb_clines : Cond.code yL_lines cL_lines 2 (some .boolean) ∈ lw_tbl := by
  have h : Cond.code yL_lines cL_lines 2 (some .boolean) ∈ tables_1_3 := List.mem_of_getElem? (i := 207) rfl
  exact List.mem_append_right _ (show Cond.code yL_lines cL_lines 2 (some .boolean) ∈ tables_1 from (List.mem_append_right _ (List.mem_append_right _ h)))
set_option maxRecDepth 20000 in
theorem tb_ccircles : Cond.code yL_circles cL_circles 1 (some .boolean) ∈ lw_tbl := by
  have h : Cond.code yL_circles cL_circles 1 (some .boolean) ∈ tables_1_3 := List.mem_of_getElem? (i := 220) rfl
  exact List.mem_append_right _ (show Cond.code yL_circles cL_circles 1 (some .boolean) ∈ tables_1 from (List.mem_append_right _ (List.mem_append_right _ h)))
set_option maxRecDepth 20000 in
theorem tb_cyears : Cond.code yL_years cL_years 2 (some .boolean) ∈ lw_tbl := by
  have h : Cond.code yL_years cL_years 2 (some .boolean) ∈ tables_1_3 := List.mem_of_getElem? (i := 224) rfl
  exact List.mem_append_right _ (show Cond.code yL_years cL_years 2 (some .boolean) ∈ tables_1 from (List.mem_append_right _ (List.mem_append_right _ h)))
theorem tb_wqT : ∀ w ∈ wqT, w ∈ lw_tbl := by
  intro w hw
  have h : w ∈ (([.methodLink RL 103 yL_lines, .static yL_lines, .initialized yL_lines.cls, .methodLink RL 107 yL_circles, .static yL_circles, .initialized yL_circles.cls, .methodLink RL 110 yL_years, .static yL_years, .initialized yL_years.cls] : List Cond) ++ [Cond.code yL_lines cL_lines 2 (some .boolean), Cond.code yL_circles cL_circles 1 (some .boolean), Cond.code yL_years cL_years 2 (some .boolean)]) := hw
  rcases List.mem_append.mp h with q | q
  · exact tb_T1 w q
  · simp only [List.mem_cons, List.not_mem_nil, or_false] at q
    rcases q with rfl | rfl | rfl
    · exact tb_clines
    · exact tb_ccircles
    · exact tb_cyears
theorem tb_wqL : ∀ w ∈ wqL, w ∈ lw_tbl := fun w h => (List.mem_append.mp h).elim (tb_wqT w) (tb_wqE w)
theorem wqT_good : wqT.all goodWord = true := by decide +kernel
theorem gl {ws : List Cond} (h : GoodIn wqE ws) : GoodIn wqL ws := fun w hw => ⟨List.mem_append_right _ (h w hw).1, (h w hw).2⟩
theorem gl_call {a b c d : Cond} (ha : a ∈ wqT) (hb : b ∈ wqT) (hc : c ∈ wqT) (hd : d ∈ wqT) : GoodIn wqL (([a, b, c] : List Cond) ++ (d :: wqE)) := by
  have t : ∀ w, w ∈ wqT → w ∈ wqL ∧ ((w.onTables && w.keeps) = true ∨ ∃ ty, w = .arrayClass ty) := fun w h => ⟨List.mem_append_left _ h, good_of_word (List.all_eq_true.mp wqT_good w h)⟩
  intro w hw
  rcases List.mem_append.mp hw with q | q
  · simp only [List.mem_cons, List.not_mem_nil, or_false] at q
    rcases q with rfl | rfl | rfl
    · exact t _ ha
    · exact t _ hb
    · exact t _ hc
  · rcases List.mem_cons.mp q with rfl | q
    · exact t _ hd
    · exact gl (gq (fun _ h => h)) w q
theorem gl_lines : GoodIn wqL (va_wsS RL 103 yL_lines wq_lines) := gl_call (List.mem_of_getElem? (i := 0) rfl) (List.mem_of_getElem? (i := 1) rfl) (List.mem_of_getElem? (i := 2) rfl) (List.mem_of_getElem? (i := 9) rfl)
theorem gl_circles : GoodIn wqL (va_wsS RL 107 yL_circles wq_circles) := gl_call (List.mem_of_getElem? (i := 3) rfl) (List.mem_of_getElem? (i := 4) rfl) (List.mem_of_getElem? (i := 5) rfl) (List.mem_of_getElem? (i := 10) rfl)
theorem gl_years : GoodIn wqL (va_wsS RL 110 yL_years wq_years) := gl_call (List.mem_of_getElem? (i := 6) rfl) (List.mem_of_getElem? (i := 7) rfl) (List.mem_of_getElem? (i := 8) rfl) (List.mem_of_getElem? (i := 11) rfl)
