section PS_lines
/-! the calls of lines with their answers, as the document has them -/
def sc_lines_0 : List ((zS → Option ((Int32 ⊕ Nat) × zS)) × (Int32 ⊕ Nat)) := [(k_value (0 : Int32), .inl (0 : Int32)), (k_kindOf (7 : Int32), .inl (0 : Int32)), (k_year, .inl (0 : Int32)), (k_carried, .inl (0 : Int32)), (k_taxOn (1000000000 : Int32), .inl (0 : Int32)), (k_dropBrackets, .inl (0 : Int32))]
def ec_lines_0 : List ((Nat → Option ((Nat ⊕ Nat) × Nat)) × (Nat ⊕ Nat)) := [(g_value 0, .inl 0), (g_kindOf 7, .inl 0), (g_year, .inl 0), (g_carried, .inl 0), (g_taxOn 1000000000, .inl 0), (g_dropBrackets, .inl 0)]
set_option maxRecDepth 4000 in
theorem ss_lines_0 : zSims sc_lines_0 ec_lines_0 := zSc (h_value 0 rfl) rfl (zSc (h_kindOf 7 rfl) rfl (zSc h_year rfl (zSc h_carried rfl (zSc (h_taxOn 1000000000 rfl) rfl (zSc h_dropBrackets rfl trivial)))))
def sc_lines_1 : List ((zS → Option ((Int32 ⊕ Nat) × zS)) × (Int32 ⊕ Nat)) := zRef (0 : Int32) (0 : Int32) (0 : Int32)
def ec_lines_1 : List ((Nat → Option ((Nat ⊕ Nat) × Nat)) × (Nat ⊕ Nat)) := eRef 0 0 0
set_option maxRecDepth 4000 in
theorem ss_lines_1 : zSims sc_lines_1 ec_lines_1 := sRef 0 0 0 rfl rfl rfl
def sc_lines_2 : List ((zS → Option ((Int32 ⊕ Nat) × zS)) × (Int32 ⊕ Nat)) := [(k_answer (0 : Int32) (1000 : Int32), .inl (0 : Int32)), (k_answer (1 : Int32) (300 : Int32), .inl (0 : Int32)), (k_define (2 : Int32) (1 : Int32) (0 : Int32) (1 : Int32), .inl (0 : Int32)), (k_define (3 : Int32) (2 : Int32) (0 : Int32) (1 : Int32), .inl (0 : Int32)), (k_define (4 : Int32) (2 : Int32) (1 : Int32) (0 : Int32), .inl (0 : Int32)), (k_define (5 : Int32) (3 : Int32) (0 : Int32) (333 : Int32), .inl (0 : Int32)), (k_define (6 : Int32) (4 : Int32) (0 : Int32) (1 : Int32), .inl (0 : Int32)), (k_define (7 : Int32) (5 : Int32) (0 : Int32) (1 : Int32), .inl (0 : Int32)), (k_define (8 : Int32) (6 : Int32) (2 : Int32) (0 : Int32), .inl (0 : Int32))]
def ec_lines_2 : List ((Nat → Option ((Nat ⊕ Nat) × Nat)) × (Nat ⊕ Nat)) := [(g_answer 0 1000, .inl 0), (g_answer 1 300, .inl 0), (g_define 2 1 0 1, .inl 0), (g_define 3 2 0 1, .inl 0), (g_define 4 2 1 0, .inl 0), (g_define 5 3 0 333, .inl 0), (g_define 6 4 0 1, .inl 0), (g_define 7 5 0 1, .inl 0), (g_define 8 6 2 0, .inl 0)]
set_option maxRecDepth 4000 in
theorem ss_lines_2 : zSims sc_lines_2 ec_lines_2 := zSc (h_answer 0 1000 rfl rfl) rfl (zSc (h_answer 1 300 rfl rfl) rfl (zSc (h_define 2 1 0 1 rfl rfl rfl rfl) rfl (zSc (h_define 3 2 0 1 rfl rfl rfl rfl) rfl (zSc (h_define 4 2 1 0 rfl rfl rfl rfl) rfl (zSc (h_define 5 3 0 333 rfl rfl rfl rfl) rfl (zSc (h_define 6 4 0 1 rfl rfl rfl rfl) rfl (zSc (h_define 7 5 0 1 rfl rfl rfl rfl) rfl (zSc (h_define 8 6 2 0 rfl rfl rfl rfl) rfl trivial))))))))
def sc_lines_3 : List ((zS → Option ((Int32 ⊕ Nat) × zS)) × (Int32 ⊕ Nat)) := [(k_define (9 : Int32) (7 : Int32) (0 : Int32) (0 : Int32), .inl (0 : Int32)), (k_define (10 : Int32) (8 : Int32) (0 : Int32) (1 : Int32), .inl (0 : Int32)), (k_value (2 : Int32), .inl (1300 : Int32)), (k_value (3 : Int32), .inl (700 : Int32)), (k_value (4 : Int32), .inl (0 : Int32)), (k_value (5 : Int32), .inl (333 : Int32)), (k_value (6 : Int32), .inl (300 : Int32)), (k_value (7 : Int32), .inl (1000 : Int32)), (k_value (8 : Int32), .inl (0 : Int32))]
def ec_lines_3 : List ((Nat → Option ((Nat ⊕ Nat) × Nat)) × (Nat ⊕ Nat)) := [(g_define 9 7 0 0, .inl 0), (g_define 10 8 0 1, .inl 0), (g_value 2, .inl 1300), (g_value 3, .inl 700), (g_value 4, .inl 0), (g_value 5, .inl 333), (g_value 6, .inl 300), (g_value 7, .inl 1000), (g_value 8, .inl 0)]
set_option maxRecDepth 4000 in
theorem ss_lines_3 : zSims sc_lines_3 ec_lines_3 := zSc (h_define 9 7 0 0 rfl rfl rfl rfl) rfl (zSc (h_define 10 8 0 1 rfl rfl rfl rfl) rfl (zSc (h_value 2 rfl) rfl (zSc (h_value 3 rfl) rfl (zSc (h_value 4 rfl) rfl (zSc (h_value 5 rfl) rfl (zSc (h_value 6 rfl) rfl (zSc (h_value 7 rfl) rfl (zSc (h_value 8 rfl) rfl trivial))))))))
def sc_lines_4 : List ((zS → Option ((Int32 ⊕ Nat) × zS)) × (Int32 ⊕ Nat)) := [(k_value (9 : Int32), .inl (0 : Int32)), (k_value (10 : Int32), .inl (300 : Int32)), (k_bracket (1000 : Int32) (200 : Int32), .inl (1 : Int32)), (k_bracket (100 : Int32) (105 : Int32), .inl (2 : Int32)), (k_bracket (1200 : Int32) (500 : Int32), .inl (3 : Int32)), (k_bracket (1000 : Int32) (201 : Int32), .inl (3 : Int32)), (k_taxOn (100 : Int32), .inl (0 : Int32)), (k_taxOn (109 : Int32), .inl (0 : Int32)), (k_taxOn (110 : Int32), .inl (1 : Int32))]
def ec_lines_4 : List ((Nat → Option ((Nat ⊕ Nat) × Nat)) × (Nat ⊕ Nat)) := [(g_value 9, .inl 0), (g_value 10, .inl 300), (g_bracket 1000 200, .inl 1), (g_bracket 100 105, .inl 2), (g_bracket 1200 500, .inl 3), (g_bracket 1000 201, .inl 3), (g_taxOn 100, .inl 0), (g_taxOn 109, .inl 0), (g_taxOn 110, .inl 1)]
set_option maxRecDepth 4000 in
theorem ss_lines_4 : zSims sc_lines_4 ec_lines_4 := zSc (h_value 9 rfl) rfl (zSc (h_value 10 rfl) rfl (zSc (h_bracket 1000 200 rfl rfl) rfl (zSc (h_bracket 100 105 rfl rfl) rfl (zSc (h_bracket 1200 500 rfl rfl) rfl (zSc (h_bracket 1000 201 rfl rfl) rfl (zSc (h_taxOn 100 rfl) rfl (zSc (h_taxOn 109 rfl) rfl (zSc (h_taxOn 110 rfl) rfl trivial))))))))
def sc_lines_5 : List ((zS → Option ((Int32 ⊕ Nat) × zS)) × (Int32 ⊕ Nat)) := [(k_taxOn (1000 : Int32), .inl (94 : Int32)), (k_taxOn (1100 : Int32), .inl (114 : Int32)), (k_taxOn (1300 : Int32), .inl (184 : Int32)), (k_value (8 : Int32), .inl (184 : Int32)), (k_taxOn (1000000000 : Int32), .inl (499999534 : Int32)), (k_boundFor (10 : Int32) (77 : Int32), .inl (300 : Int32)), (k_dependsOn (8 : Int32) (0 : Int32), .inl (1 : Int32)), (k_dependsOn (8 : Int32) (8 : Int32), .inl (0 : Int32)), (k_dependsOn (0 : Int32) (8 : Int32), .inl (0 : Int32))]
def ec_lines_5 : List ((Nat → Option ((Nat ⊕ Nat) × Nat)) × (Nat ⊕ Nat)) := [(g_taxOn 1000, .inl 94), (g_taxOn 1100, .inl 114), (g_taxOn 1300, .inl 184), (g_value 8, .inl 184), (g_taxOn 1000000000, .inl 499999534), (g_boundFor 10 77, .inl 300), (g_dependsOn 8 0, .inl 1), (g_dependsOn 8 8, .inl 0), (g_dependsOn 0 8, .inl 0)]
set_option maxRecDepth 4000 in
theorem ss_lines_5 : zSims sc_lines_5 ec_lines_5 := zSc (h_taxOn 1000 rfl) rfl (zSc (h_taxOn 1100 rfl) rfl (zSc (h_taxOn 1300 rfl) rfl (zSc (h_value 8 rfl) rfl (zSc (h_taxOn 1000000000 rfl) rfl (zSc (h_boundFor 10 77 rfl rfl) rfl (zSc (h_dependsOn 8 0 rfl rfl) rfl (zSc (h_dependsOn 8 8 rfl rfl) rfl (zSc (h_dependsOn 0 8 rfl rfl) rfl trivial))))))))
def sc_lines_6 : List ((zS → Option ((Int32 ⊕ Nat) × zS)) × (Int32 ⊕ Nat)) := [(k_influence (0 : Int32), .inl (4 : Int32)), (k_influence (1 : Int32), .inl (5 : Int32)), (k_influence (2 : Int32), .inl (0 : Int32)), (k_influence (11 : Int32), .inl (1 : Int32)), (k_why (8 : Int32) (0 : Int32), .inl (8 : Int32)), (k_why (8 : Int32) (1 : Int32), .inl (2 : Int32)), (k_why (8 : Int32) (2 : Int32), .inl (0 : Int32)), (k_why (8 : Int32) (3 : Int32), .inl (1 : Int32)), (k_why (8 : Int32) (4 : Int32), .inl (-1 : Int32))]
def ec_lines_6 : List ((Nat → Option ((Nat ⊕ Nat) × Nat)) × (Nat ⊕ Nat)) := [(g_influence 0, .inl 4), (g_influence 1, .inl 5), (g_influence 2, .inl 0), (g_influence 11, .inl 1), (g_why 8 0, .inl 8), (g_why 8 1, .inl 2), (g_why 8 2, .inl 0), (g_why 8 3, .inl 1), (g_why 8 4, .inl 4294967295)]
set_option maxRecDepth 4000 in
theorem ss_lines_6 : zSims sc_lines_6 ec_lines_6 := zSc (h_influence 0 rfl) rfl (zSc (h_influence 1 rfl) rfl (zSc (h_influence 2 rfl) rfl (zSc (h_influence 11 rfl) rfl (zSc (h_why 8 0 rfl rfl) rfl (zSc (h_why 8 1 rfl rfl) rfl (zSc (h_why 8 2 rfl rfl) rfl (zSc (h_why 8 3 rfl rfl) rfl (zSc (h_why 8 4 rfl rfl) (by decide) trivial))))))))
def sc_lines_7 : List ((zS → Option ((Int32 ⊕ Nat) × zS)) × (Int32 ⊕ Nat)) := [(k_why (6 : Int32) (1 : Int32), .inl (1 : Int32)), (k_why (6 : Int32) (2 : Int32), .inl (-1 : Int32)), (k_why (7 : Int32) (1 : Int32), .inl (0 : Int32)), (k_why (10 : Int32) (1 : Int32), .inl (1 : Int32)), (k_why (0 : Int32) (1 : Int32), .inl (-1 : Int32)), (k_why (9 : Int32) (1 : Int32), .inl (0 : Int32)), (k_why (3 : Int32) (2 : Int32), .inl (1 : Int32)), (k_why (5 : Int32) (2147483647 : Int32), .inl (-1 : Int32)), (k_answer (2 : Int32) (5 : Int32), .inl (0 : Int32))]
def ec_lines_7 : List ((Nat → Option ((Nat ⊕ Nat) × Nat)) × (Nat ⊕ Nat)) := [(g_why 6 1, .inl 1), (g_why 6 2, .inl 4294967295), (g_why 7 1, .inl 0), (g_why 10 1, .inl 1), (g_why 0 1, .inl 4294967295), (g_why 9 1, .inl 0), (g_why 3 2, .inl 1), (g_why 5 2147483647, .inl 4294967295), (g_answer 2 5, .inl 0)]
set_option maxRecDepth 4000 in
theorem ss_lines_7 : zSims sc_lines_7 ec_lines_7 := zSc (h_why 6 1 rfl rfl) rfl (zSc (h_why 6 2 rfl rfl) (by decide) (zSc (h_why 7 1 rfl rfl) rfl (zSc (h_why 10 1 rfl rfl) rfl (zSc (h_why 0 1 rfl rfl) (by decide) (zSc (h_why 9 1 rfl rfl) rfl (zSc (h_why 3 2 rfl rfl) rfl (zSc (h_why 5 2147483647 rfl rfl) (by decide) (zSc (h_answer 2 5 rfl rfl) rfl trivial))))))))
def sc_lines_8 : List ((zS → Option ((Int32 ⊕ Nat) × zS)) × (Int32 ⊕ Nat)) := [(k_value (2 : Int32), .inl (1300 : Int32)), (k_define (2 : Int32) (0 : Int32) (-9 : Int32) (99 : Int32), .inl (0 : Int32)), (k_value (2 : Int32), .inl (5 : Int32)), (k_answer (2 : Int32) (0 : Int32), .inl (5 : Int32)), (k_dropBrackets, .inl (3 : Int32)), (k_taxOn (1300 : Int32), .inl (0 : Int32)), (k_bracket (0 : Int32) (1000 : Int32), .inl (1 : Int32)), (k_bracket (10 : Int32) (1000 : Int32), .inl (2 : Int32)), (k_bracket (20 : Int32) (1000 : Int32), .inl (3 : Int32))]
def ec_lines_8 : List ((Nat → Option ((Nat ⊕ Nat) × Nat)) × (Nat ⊕ Nat)) := [(g_value 2, .inl 1300), (g_define 2 0 4294967287 99, .inl 0), (g_value 2, .inl 5), (g_answer 2 0, .inl 5), (g_dropBrackets, .inl 3), (g_taxOn 1300, .inl 0), (g_bracket 0 1000, .inl 1), (g_bracket 10 1000, .inl 2), (g_bracket 20 1000, .inl 3)]
set_option maxRecDepth 4000 in
theorem ss_lines_8 : zSims sc_lines_8 ec_lines_8 := zSc (h_value 2 rfl) rfl (zSc (h_define 2 0 4294967287 99 rfl rfl (by decide) rfl) rfl (zSc (h_value 2 rfl) rfl (zSc (h_answer 2 0 rfl rfl) rfl (zSc h_dropBrackets rfl (zSc (h_taxOn 1300 rfl) rfl (zSc (h_bracket 0 1000 rfl rfl) rfl (zSc (h_bracket 10 1000 rfl rfl) rfl (zSc (h_bracket 20 1000 rfl rfl) rfl trivial))))))))
def sc_lines_9 : List ((zS → Option ((Int32 ⊕ Nat) × zS)) × (Int32 ⊕ Nat)) := [(k_bracket (30 : Int32) (1000 : Int32), .inl (4 : Int32)), (k_bracket (40 : Int32) (1000 : Int32), .inl (5 : Int32)), (k_bracket (50 : Int32) (1000 : Int32), .inr 3), (k_bracket (40 : Int32) (0 : Int32), .inl (5 : Int32)), (k_taxOn (100 : Int32), .inl (40 : Int32))]
def ec_lines_9 : List ((Nat → Option ((Nat ⊕ Nat) × Nat)) × (Nat ⊕ Nat)) := [(g_bracket 30 1000, .inl 4), (g_bracket 40 1000, .inl 5), (g_bracket 50 1000, .inr 3), (g_bracket 40 0, .inl 5), (g_taxOn 100, .inl 40)]
set_option maxRecDepth 4000 in
theorem ss_lines_9 : zSims sc_lines_9 ec_lines_9 := zSc (h_bracket 30 1000 rfl rfl) rfl (zSc (h_bracket 40 1000 rfl rfl) rfl (zSc (h_bracket 50 1000 rfl rfl) rfl (zSc (h_bracket 40 0 rfl rfl) rfl (zSc (h_taxOn 100 rfl) rfl trivial))))
def sc_lines_10 : List ((zS → Option ((Int32 ⊕ Nat) × zS)) × (Int32 ⊕ Nat)) := zRef (0 : Int32) (0 : Int32) (0 : Int32)
def ec_lines_10 : List ((Nat → Option ((Nat ⊕ Nat) × Nat)) × (Nat ⊕ Nat)) := eRef 0 0 0
set_option maxRecDepth 4000 in
theorem ss_lines_10 : zSims sc_lines_10 ec_lines_10 := sRef 0 0 0 rfl rfl rfl
def sc_lines_11 : List ((zS → Option ((Int32 ⊕ Nat) × zS)) × (Int32 ⊕ Nat)) := []
def ec_lines_11 : List ((Nat → Option ((Nat ⊕ Nat) × Nat)) × (Nat ⊕ Nat)) := []
set_option maxRecDepth 4000 in
theorem ss_lines_11 : zSims sc_lines_11 ec_lines_11 := trivial
theorem ev_lines : (match e_X4_make 130 eS0 with | some (_, S) => (eRun (ec_lines_0 ++ (ec_lines_1 ++ (ec_lines_2 ++ (ec_lines_3 ++ (ec_lines_4 ++ (ec_lines_5 ++ (ec_lines_6 ++ (ec_lines_7 ++ (ec_lines_8 ++ (ec_lines_9 ++ (ec_lines_10 ++ (ec_lines_11)))))))))))) S).isSome | none => false) = true := by decide +kernel
theorem runs_lines : ∃ (r9 : Int32) (s0 s1 s2 s3 s4 s5 s6 s7 s8 s9 s10 s11 s12 : zS), m_X4_make 130 (zU (zU z0 21 5 (-1 : Int32)) 23 5 (-1 : Int32)) = some (r9, s0) ∧ zRun sc_lines_0 s0 s1 ∧ zRun sc_lines_1 s1 s2 ∧ zRun sc_lines_2 s2 s3 ∧ zRun sc_lines_3 s3 s4 ∧ zRun sc_lines_4 s4 s5 ∧ zRun sc_lines_5 s5 s6 ∧ zRun sc_lines_6 s6 s7 ∧ zRun sc_lines_7 s7 s8 ∧ zRun sc_lines_8 s8 s9 ∧ zRun sc_lines_9 s9 s10 ∧ zRun sc_lines_10 s10 s11 ∧ zRun sc_lines_11 s11 s12 := by
  have h := ev_lines
  cases e : e_X4_make 130 eS0 with
  | none => rw [e] at h; cases h
  | some w =>
    obtain ⟨r, S⟩ := w
    rw [e] at h
    have h : (eRun (ec_lines_0 ++ (ec_lines_1 ++ (ec_lines_2 ++ (ec_lines_3 ++ (ec_lines_4 ++ (ec_lines_5 ++ (ec_lines_6 ++ (ec_lines_7 ++ (ec_lines_8 ++ (ec_lines_9 ++ (ec_lines_10 ++ (ec_lines_11)))))))))))) S).isSome = true := h
    obtain ⟨T, hh⟩ := Option.isSome_iff_exists.mp h
    obtain ⟨U0, a0, hh⟩ := eRun_app hh
    obtain ⟨U1, a1, hh⟩ := eRun_app hh
    obtain ⟨U2, a2, hh⟩ := eRun_app hh
    obtain ⟨U3, a3, hh⟩ := eRun_app hh
    obtain ⟨U4, a4, hh⟩ := eRun_app hh
    obtain ⟨U5, a5, hh⟩ := eRun_app hh
    obtain ⟨U6, a6, hh⟩ := eRun_app hh
    obtain ⟨U7, a7, hh⟩ := eRun_app hh
    obtain ⟨U8, a8, hh⟩ := eRun_app hh
    obtain ⟨U9, a9, hh⟩ := eRun_app hh
    obtain ⟨U10, a10, hh⟩ := eRun_app hh
    exact ⟨nI r, cS S, cS U0, cS U1, cS U2, cS U3, cS U4, cS U5, cS U6, cS U7, cS U8, cS U9, cS U10, cS T, by rw [eS0_is]; exact s_X4_make 130 eS0 r S e, run_sim ss_lines_0 a0, run_sim ss_lines_1 a1, run_sim ss_lines_2 a2, run_sim ss_lines_3 a3, run_sim ss_lines_4 a4, run_sim ss_lines_5 a5, run_sim ss_lines_6 a6, run_sim ss_lines_7 a7, run_sim ss_lines_8 a8, run_sim ss_lines_9 a9, run_sim ss_lines_10 a10, run_sim ss_lines_11 hh⟩
end PS_lines
