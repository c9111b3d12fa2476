/-! the words of the law's methods, in one list -/
def wqH : List Cond := [.methodLink RL 91 yX7_dropBrackets, .instanceMethod yX7_dropBrackets, .selects RX7 yX7_dropBrackets yX7_dropBrackets, .initialized RX7, .methodLink RL 100 yX7_closeYear, .instanceMethod yX7_closeYear, .selects RX7 yX7_closeYear yX7_closeYear, .methodLink RL 94 yL_refuses, .static yL_refuses, .initialized yL_refuses.cls, .classLink RL 8 RX7, .instantiable RX7 8, .methodLink RL 89 yX7_init, .instanceMethod yX7_init, .initialized yX7_init.cls, .constant RL 79 1000001, .constant RL 90 1000000000, .constant RL 98 499999534, .constant RL 99 100000]
def wqE : List Cond := wqH ++ (wsX70 ++ (wsX7_init ++ (wsX7_dropBrackets ++ (wsX7_closeYear ++ wsL_refuses))))
set_option maxRecDepth 100000 in
theorem wqE_good : wqE.all goodWord = true := by decide +kernel
theorem wqE_h {w : Cond} (h : w ∈ wqH) : w ∈ wqE := List.mem_append_left _ h
theorem wqE_x {w : Cond} (h : w ∈ wsX70) : w ∈ wqE := List.mem_append_right _ (List.mem_append_left _ h)
theorem wqE_i {w : Cond} (h : w ∈ wsX7_init) : w ∈ wqE := List.mem_append_right _ (List.mem_append_right _ (List.mem_append_left _ h))
theorem wqE_d {w : Cond} (h : w ∈ wsX7_dropBrackets) : w ∈ wqE := List.mem_append_right _ (List.mem_append_right _ (List.mem_append_right _ (List.mem_append_left _ h)))
theorem wqE_c {w : Cond} (h : w ∈ wsX7_closeYear) : w ∈ wqE := List.mem_append_right _ (List.mem_append_right _ (List.mem_append_right _ (List.mem_append_right _ (List.mem_append_left _ h))))
theorem wqE_r {w : Cond} (h : w ∈ wsL_refuses) : w ∈ wqE := List.mem_append_right _ (List.mem_append_right _ (List.mem_append_right _ (List.mem_append_right _ (List.mem_append_right _ h))))
theorem gq {ws : List Cond} (h : ∀ w ∈ ws, w ∈ wqE) : GoodIn wqE ws := fun w hw => ⟨h w hw, good_of_word (List.all_eq_true.mp wqE_good w (h w hw))⟩
theorem gTr {a b c : List Cond} (h1 : GoodIn a b) (h2 : GoodIn b c) : GoodIn a c := fun w hw => ⟨(h1 w (h2 w hw).1).1, (h2 w hw).2⟩
theorem gc {x : Cond} {ws : List Cond} (h : GoodIn wqE ws) : GoodIn (x :: wqE) ws := fun w hw => ⟨List.mem_cons_of_mem _ (h w hw).1, (h w hw).2⟩
theorem gq_ref : GoodIn wqE wsL_refuses := gq (fun _ h => wqE_r h)
theorem gq_init : GoodIn wqE wsX7_init := gq (fun _ h => wqE_i h)
theorem gq_four {a b c d : Cond} {ws : List Cond} (h1 : a ∈ wqH) (h2 : b ∈ wqH) (h3 : c ∈ wqH) (h4 : d ∈ wqH) (h : ∀ w ∈ ws, w ∈ wqE) : GoodIn wqE (([a, b, c, d] : List Cond) ++ ws) := gq (fun w hw => (List.mem_append.mp hw).elim (fun q => by
  simp only [List.mem_cons, List.not_mem_nil, or_false] at q
  rcases q with rfl | rfl | rfl | rfl
  · exact wqE_h h1
  · exact wqE_h h2
  · exact wqE_h h3
  · exact wqE_h h4) (h w))
theorem gq_three {a b c : Cond} {ws : List Cond} (h1 : a ∈ wqH) (h2 : b ∈ wqH) (h3 : c ∈ wqH) (h : ∀ w ∈ ws, w ∈ wqE) : GoodIn wqE (([a, b, c] : List Cond) ++ ws) := gq (fun w hw => (List.mem_append.mp hw).elim (fun q => by
  simp only [List.mem_cons, List.not_mem_nil, or_false] at q
  rcases q with rfl | rfl | rfl
  · exact wqE_h h1
  · exact wqE_h h2
  · exact wqE_h h3) (h w))
theorem wqH_0 : Cond.methodLink RL 91 yX7_dropBrackets ∈ wqH := List.mem_of_getElem? (i := 0) rfl
theorem wqH_1 : Cond.instanceMethod yX7_dropBrackets ∈ wqH := List.mem_of_getElem? (i := 1) rfl
theorem wqH_2 : Cond.selects RX7 yX7_dropBrackets yX7_dropBrackets ∈ wqH := List.mem_of_getElem? (i := 2) rfl
theorem wqH_3 : Cond.initialized RX7 ∈ wqH := List.mem_of_getElem? (i := 3) rfl
theorem wqH_4 : Cond.methodLink RL 100 yX7_closeYear ∈ wqH := List.mem_of_getElem? (i := 4) rfl
theorem wqH_5 : Cond.instanceMethod yX7_closeYear ∈ wqH := List.mem_of_getElem? (i := 5) rfl
theorem wqH_6 : Cond.selects RX7 yX7_closeYear yX7_closeYear ∈ wqH := List.mem_of_getElem? (i := 6) rfl
theorem wqH_7 : Cond.methodLink RL 94 yL_refuses ∈ wqH := List.mem_of_getElem? (i := 7) rfl
theorem wqH_8 : Cond.static yL_refuses ∈ wqH := List.mem_of_getElem? (i := 8) rfl
theorem wqH_9 : Cond.initialized yL_refuses.cls ∈ wqH := List.mem_of_getElem? (i := 9) rfl
theorem wqH_10 : Cond.classLink RL 8 RX7 ∈ wqH := List.mem_of_getElem? (i := 10) rfl
theorem wqH_11 : Cond.instantiable RX7 8 ∈ wqH := List.mem_of_getElem? (i := 11) rfl
theorem wqH_12 : Cond.methodLink RL 89 yX7_init ∈ wqH := List.mem_of_getElem? (i := 12) rfl
theorem wqH_13 : Cond.instanceMethod yX7_init ∈ wqH := List.mem_of_getElem? (i := 13) rfl
theorem wqH_14 : Cond.initialized yX7_init.cls ∈ wqH := List.mem_of_getElem? (i := 14) rfl
theorem wqH_c79 : Cond.constant RL 79 1000001 ∈ wqH := List.mem_of_getElem? (i := 15) rfl
theorem wqH_c90 : Cond.constant RL 90 1000000000 ∈ wqH := List.mem_of_getElem? (i := 16) rfl
theorem wqH_c98 : Cond.constant RL 98 499999534 ∈ wqH := List.mem_of_getElem? (i := 17) rfl
theorem wqH_c99 : Cond.constant RL 99 100000 ∈ wqH := List.mem_of_getElem? (i := 18) rfl
theorem gq_dropBrackets : GoodIn wqE (wsV RL 91 RX7 yX7_dropBrackets wsX7_dropBrackets) := gq_four wqH_0 wqH_1 wqH_2 wqH_3 (fun _ h => wqE_d h)
theorem gq_closeYear : GoodIn wqE (wsV RL 100 RX7 yX7_closeYear wsX7_closeYear) := gq_four wqH_4 wqH_5 wqH_6 wqH_3 (fun _ h => wqE_c h)
theorem gq_L_refuses : GoodIn wqE (va_wsS RL 94 yL_refuses wsL_refuses) := gq_three wqH_7 wqH_8 wqH_9 (fun _ h => wqE_r h)
theorem gq_L_define : GoodIn wqE (va_wsS RL 80 yL_define wsL_define) := gTr gq_ref gL_refuses_L_define
theorem gq_L_act : GoodIn wqE (va_wsS RL 85 yL_act wsL_act) := gTr gq_ref gL_refuses_L_act
theorem gq_year : GoodIn wqE (wsV RL 71 RX7 yX7_year wsX7_year) := gTr gq_ref gL_refuses_X7_year
theorem gq_carried : GoodIn wqE (wsV RL 74 RX7 yX7_carried wsX7_carried) := gTr gq_ref gL_refuses_X7_carried
theorem gq_answer : GoodIn wqE (wsV RL 19 RX7 yX7_answer wsX7_answer) := gTr (gTr gq_ref ggL_refuses_L_act) gL_act_X7_answer
theorem gq_kindOf : GoodIn wqE (wsV RL 23 RX7 yX7_kindOf wsX7_kindOf) := gTr (gTr gq_ref ggL_refuses_L_act) gL_act_X7_kindOf
theorem gq_value : GoodIn wqE (wsV RL 27 RX7 yX7_value wsX7_value) := gTr (gTr gq_ref ggL_refuses_L_act) gL_act_X7_value
theorem gq_boundFor : GoodIn wqE (wsV RL 30 RX7 yX7_boundFor wsX7_boundFor) := gTr (gTr gq_ref ggL_refuses_L_act) gL_act_X7_boundFor
theorem gq_dependsOn : GoodIn wqE (wsV RL 33 RX7 yX7_dependsOn wsX7_dependsOn) := gTr (gTr gq_ref ggL_refuses_L_act) gL_act_X7_dependsOn
theorem gq_influence : GoodIn wqE (wsV RL 37 RX7 yX7_influence wsX7_influence) := gTr (gTr gq_ref ggL_refuses_L_act) gL_act_X7_influence
theorem gq_why : GoodIn wqE (wsV RL 40 RX7 yX7_why wsX7_why) := gTr (gTr gq_ref ggL_refuses_L_act) gL_act_X7_why
theorem gq_bracket : GoodIn wqE (wsV RL 43 RX7 yX7_bracket wsX7_bracket) := gTr (gTr gq_ref ggL_refuses_L_act) gL_act_X7_bracket
theorem gq_taxOn : GoodIn wqE (wsV RL 46 RX7 yX7_taxOn wsX7_taxOn) := gTr (gTr gq_ref ggL_refuses_L_act) gL_act_X7_taxOn
theorem gq_carry : GoodIn wqE (wsV RL 49 RX7 yX7_carry wsX7_carry) := gTr (gTr gq_ref ggL_refuses_L_act) gL_act_X7_carry
theorem gq_carriedAt : GoodIn wqE (wsV RL 52 RX7 yX7_carriedAt wsX7_carriedAt) := gTr (gTr gq_ref ggL_refuses_L_act) gL_act_X7_carriedAt
theorem gq_addCredit : GoodIn wqE (wsV RL 55 RX7 yX7_addCredit wsX7_addCredit) := gTr (gTr gq_ref ggL_refuses_L_act) gL_act_X7_addCredit
theorem gq_dropCredit : GoodIn wqE (wsV RL 58 RX7 yX7_dropCredit wsX7_dropCredit) := gTr (gTr gq_ref ggL_refuses_L_act) gL_act_X7_dropCredit
theorem gq_creditAt : GoodIn wqE (wsV RL 62 RX7 yX7_creditAt wsX7_creditAt) := gTr (gTr gq_ref ggL_refuses_L_act) gL_act_X7_creditAt
theorem gq_afterCredits : GoodIn wqE (wsV RL 65 RX7 yX7_afterCredits wsX7_afterCredits) := gTr (gTr gq_ref ggL_refuses_L_act) gL_act_X7_afterCredits
theorem gq_bestSum : GoodIn wqE (wsV RL 68 RX7 yX7_bestSum wsX7_bestSum) := gTr (gTr gq_ref ggL_refuses_L_act) gL_act_X7_bestSum
def wq_lines : List Cond := Cond.code yL_lines cL_lines 2 (some .boolean) :: wqE
theorem ewq_lines_c79 : Cond.constant RL 79 1000001 ∈ wq_lines := List.mem_cons_of_mem _ (wqE_h wqH_c79)
theorem ewq_lines_c90 : Cond.constant RL 90 1000000000 ∈ wq_lines := List.mem_cons_of_mem _ (wqE_h wqH_c90)
theorem ewq_lines_c98 : Cond.constant RL 98 499999534 ∈ wq_lines := List.mem_cons_of_mem _ (wqE_h wqH_c98)
theorem ewq_lines_c99 : Cond.constant RL 99 100000 ∈ wq_lines := List.mem_cons_of_mem _ (wqE_h wqH_c99)
def wq_circles : List Cond := Cond.code yL_circles cL_circles 1 (some .boolean) :: wqE
theorem ewq_circles_c79 : Cond.constant RL 79 1000001 ∈ wq_circles := List.mem_cons_of_mem _ (wqE_h wqH_c79)
theorem ewq_circles_c90 : Cond.constant RL 90 1000000000 ∈ wq_circles := List.mem_cons_of_mem _ (wqE_h wqH_c90)
theorem ewq_circles_c98 : Cond.constant RL 98 499999534 ∈ wq_circles := List.mem_cons_of_mem _ (wqE_h wqH_c98)
theorem ewq_circles_c99 : Cond.constant RL 99 100000 ∈ wq_circles := List.mem_cons_of_mem _ (wqE_h wqH_c99)
def wq_years : List Cond := Cond.code yL_years cL_years 2 (some .boolean) :: wqE
theorem ewq_years_c79 : Cond.constant RL 79 1000001 ∈ wq_years := List.mem_cons_of_mem _ (wqE_h wqH_c79)
theorem ewq_years_c90 : Cond.constant RL 90 1000000000 ∈ wq_years := List.mem_cons_of_mem _ (wqE_h wqH_c90)
theorem ewq_years_c98 : Cond.constant RL 98 499999534 ∈ wq_years := List.mem_cons_of_mem _ (wqE_h wqH_c98)
theorem ewq_years_c99 : Cond.constant RL 99 100000 ∈ wq_years := List.mem_cons_of_mem _ (wqE_h wqH_c99)
theorem ewq_lines_c77 : Cond.constant RL 77 2147483647 ∈ wq_lines := List.mem_cons_of_mem _ (wqE_r eL_refuses_c77)
theorem ewq_circles_c77 : Cond.constant RL 77 2147483647 ∈ wq_circles := List.mem_cons_of_mem _ (wqE_r eL_refuses_c77)
theorem ewq_years_c77 : Cond.constant RL 77 2147483647 ∈ wq_years := List.mem_cons_of_mem _ (wqE_r eL_refuses_c77)
