section PS_circles
/-! the calls of circles with their answers, as the document has them -/
def sc_circles_0 : List ((zS → Option ((Int32 ⊕ Nat) × zS)) × (Int32 ⊕ Nat)) := [(k_define (1 : Int32) (1 : Int32) (1 : Int32) (0 : Int32), .inr 3), (k_define (1 : Int32) (8 : Int32) (0 : Int32) (1 : Int32), .inr 3), (k_answer (0 : Int32) (1000 : Int32), .inl (0 : Int32)), (k_answer (2 : Int32) (600 : Int32), .inl (0 : Int32)), (k_define (1 : Int32) (8 : Int32) (0 : Int32) (3 : Int32), .inl (0 : Int32)), (k_define (3 : Int32) (2 : Int32) (2 : Int32) (1 : Int32), .inl (0 : Int32)), (k_value (1 : Int32), .inl (300 : Int32)), (k_value (3 : Int32), .inl (300 : Int32)), (k_dependsOn (1 : Int32) (1 : Int32), .inl (1 : Int32))]
def ec_circles_0 : List ((Nat → Option ((Nat ⊕ Nat) × Nat)) × (Nat ⊕ Nat)) := [(g_define 1 1 1 0, .inr 3), (g_define 1 8 0 1, .inr 3), (g_answer 0 1000, .inl 0), (g_answer 2 600, .inl 0), (g_define 1 8 0 3, .inl 0), (g_define 3 2 2 1, .inl 0), (g_value 1, .inl 300), (g_value 3, .inl 300), (g_dependsOn 1 1, .inl 1)]
set_option maxRecDepth 4000 in
theorem ss_circles_0 : zSims sc_circles_0 ec_circles_0 := zSc (h_define 1 1 1 0 rfl rfl rfl rfl) rfl (zSc (h_define 1 8 0 1 rfl rfl rfl rfl) rfl (zSc (h_answer 0 1000 rfl rfl) rfl (zSc (h_answer 2 600 rfl rfl) rfl (zSc (h_define 1 8 0 3 rfl rfl rfl rfl) rfl (zSc (h_define 3 2 2 1 rfl rfl rfl rfl) rfl (zSc (h_value 1 rfl) rfl (zSc (h_value 3 rfl) rfl (zSc (h_dependsOn 1 1 rfl rfl) rfl trivial))))))))
def sc_circles_1 : List ((zS → Option ((Int32 ⊕ Nat) × zS)) × (Int32 ⊕ Nat)) := [(k_dependsOn (3 : Int32) (3 : Int32), .inl (1 : Int32)), (k_boundFor (1 : Int32) (0 : Int32), .inl (600 : Int32)), (k_boundFor (1 : Int32) (301 : Int32), .inl (299 : Int32)), (k_boundFor (1 : Int32) (1000000000 : Int32), .inl (0 : Int32)), (k_answer (2 : Int32) (601 : Int32), .inl (600 : Int32)), (k_value (1 : Int32), .inl (300 : Int32)), (k_value (3 : Int32), .inl (301 : Int32)), (k_answer (2 : Int32) (700 : Int32), .inl (601 : Int32)), (k_answer (0 : Int32) (200 : Int32), .inl (1000 : Int32))]
def ec_circles_1 : List ((Nat → Option ((Nat ⊕ Nat) × Nat)) × (Nat ⊕ Nat)) := [(g_dependsOn 3 3, .inl 1), (g_boundFor 1 0, .inl 600), (g_boundFor 1 301, .inl 299), (g_boundFor 1 1000000000, .inl 0), (g_answer 2 601, .inl 600), (g_value 1, .inl 300), (g_value 3, .inl 301), (g_answer 2 700, .inl 601), (g_answer 0 200, .inl 1000)]
set_option maxRecDepth 4000 in
theorem ss_circles_1 : zSims sc_circles_1 ec_circles_1 := zSc (h_dependsOn 3 3 rfl rfl) rfl (zSc (h_boundFor 1 0 rfl rfl) rfl (zSc (h_boundFor 1 301 rfl rfl) rfl (zSc (h_boundFor 1 1000000000 rfl rfl) rfl (zSc (h_answer 2 601 rfl rfl) rfl (zSc (h_value 1 rfl) rfl (zSc (h_value 3 rfl) rfl (zSc (h_answer 2 700 rfl rfl) rfl (zSc (h_answer 0 200 rfl rfl) rfl trivial))))))))
def sc_circles_2 : List ((zS → Option ((Int32 ⊕ Nat) × zS)) × (Int32 ⊕ Nat)) := [(k_value (1 : Int32), .inl (200 : Int32)), (k_value (3 : Int32), .inl (500 : Int32)), (k_why (1 : Int32) (1 : Int32), .inl (0 : Int32)), (k_influence (2 : Int32), .inl (2 : Int32)), (k_influence (0 : Int32), .inl (3 : Int32)), (k_define (3 : Int32) (1 : Int32) (2 : Int32) (1 : Int32), .inr 3), (k_kindOf (3 : Int32), .inl (2 : Int32)), (k_define (3 : Int32) (2 : Int32) (1 : Int32) (2 : Int32), .inr 3), (k_define (3 : Int32) (2 : Int32) (1 : Int32) (1 : Int32), .inr 3)]
def ec_circles_2 : List ((Nat → Option ((Nat ⊕ Nat) × Nat)) × (Nat ⊕ Nat)) := [(g_value 1, .inl 200), (g_value 3, .inl 500), (g_why 1 1, .inl 0), (g_influence 2, .inl 2), (g_influence 0, .inl 3), (g_define 3 1 2 1, .inr 3), (g_kindOf 3, .inl 2), (g_define 3 2 1 2, .inr 3), (g_define 3 2 1 1, .inr 3)]
set_option maxRecDepth 4000 in
theorem ss_circles_2 : zSims sc_circles_2 ec_circles_2 := zSc (h_value 1 rfl) rfl (zSc (h_value 3 rfl) rfl (zSc (h_why 1 1 rfl rfl) rfl (zSc (h_influence 2 rfl) rfl (zSc (h_influence 0 rfl) rfl (zSc (h_define 3 1 2 1 rfl rfl rfl rfl) rfl (zSc (h_kindOf 3 rfl) rfl (zSc (h_define 3 2 1 2 rfl rfl rfl rfl) rfl (zSc (h_define 3 2 1 1 rfl rfl rfl rfl) rfl trivial))))))))
def sc_circles_3 : List ((zS → Option ((Int32 ⊕ Nat) × zS)) × (Int32 ⊕ Nat)) := [(k_define (3 : Int32) (8 : Int32) (2 : Int32) (1 : Int32), .inr 3), (k_define (1 : Int32) (8 : Int32) (3 : Int32) (3 : Int32), .inr 3), (k_define (1 : Int32) (1 : Int32) (0 : Int32) (3 : Int32), .inr 3), (k_define (4 : Int32) (3 : Int32) (1 : Int32) (500 : Int32), .inl (0 : Int32)), (k_define (5 : Int32) (1 : Int32) (4 : Int32) (1 : Int32), .inl (0 : Int32)), (k_define (3 : Int32) (2 : Int32) (2 : Int32) (5 : Int32), .inl (0 : Int32)), (k_answer (0 : Int32) (100000 : Int32), .inl (200 : Int32)), (k_value (1 : Int32), .inl (280 : Int32)), (k_value (4 : Int32), .inl (140 : Int32))]
def ec_circles_3 : List ((Nat → Option ((Nat ⊕ Nat) × Nat)) × (Nat ⊕ Nat)) := [(g_define 3 8 2 1, .inr 3), (g_define 1 8 3 3, .inr 3), (g_define 1 1 0 3, .inr 3), (g_define 4 3 1 500, .inl 0), (g_define 5 1 4 1, .inl 0), (g_define 3 2 2 5, .inl 0), (g_answer 0 100000, .inl 200), (g_value 1, .inl 280), (g_value 4, .inl 140)]
set_option maxRecDepth 4000 in
theorem ss_circles_3 : zSims sc_circles_3 ec_circles_3 := zSc (h_define 3 8 2 1 rfl rfl rfl rfl) rfl (zSc (h_define 1 8 3 3 rfl rfl rfl rfl) rfl (zSc (h_define 1 1 0 3 rfl rfl rfl rfl) rfl (zSc (h_define 4 3 1 500 rfl rfl rfl rfl) rfl (zSc (h_define 5 1 4 1 rfl rfl rfl rfl) rfl (zSc (h_define 3 2 2 5 rfl rfl rfl rfl) rfl (zSc (h_answer 0 100000 rfl rfl) rfl (zSc (h_value 1 rfl) rfl (zSc (h_value 4 rfl) rfl trivial))))))))
def sc_circles_4 : List ((zS → Option ((Int32 ⊕ Nat) × zS)) × (Int32 ⊕ Nat)) := [(k_value (5 : Int32), .inl (420 : Int32)), (k_value (3 : Int32), .inl (280 : Int32)), (k_define (6 : Int32) (2 : Int32) (2 : Int32) (4 : Int32), .inl (0 : Int32)), (k_define (5 : Int32) (1 : Int32) (6 : Int32) (1 : Int32), .inr 3), (k_define (4 : Int32) (3 : Int32) (3 : Int32) (500 : Int32), .inr 3)]
def ec_circles_4 : List ((Nat → Option ((Nat ⊕ Nat) × Nat)) × (Nat ⊕ Nat)) := [(g_value 5, .inl 420), (g_value 3, .inl 280), (g_define 6 2 2 4, .inl 0), (g_define 5 1 6 1, .inr 3), (g_define 4 3 3 500, .inr 3)]
set_option maxRecDepth 4000 in
theorem ss_circles_4 : zSims sc_circles_4 ec_circles_4 := zSc (h_value 5 rfl) rfl (zSc (h_value 3 rfl) rfl (zSc (h_define 6 2 2 4 rfl rfl rfl rfl) rfl (zSc (h_define 5 1 6 1 rfl rfl rfl rfl) rfl (zSc (h_define 4 3 3 500 rfl rfl rfl rfl) rfl trivial))))
def sc_circles_5 : List ((zS → Option ((Int32 ⊕ Nat) × zS)) × (Int32 ⊕ Nat)) := zRef (0 : Int32) (0 : Int32) (0 : Int32)
def ec_circles_5 : List ((Nat → Option ((Nat ⊕ Nat) × Nat)) × (Nat ⊕ Nat)) := eRef 0 0 0
set_option maxRecDepth 4000 in
theorem ss_circles_5 : zSims sc_circles_5 ec_circles_5 := sRef 0 0 0 rfl rfl rfl
def sc_circles_6 : List ((zS → Option ((Int32 ⊕ Nat) × zS)) × (Int32 ⊕ Nat)) := [(k_bracket (0 : Int32) (500 : Int32), .inl (1 : Int32)), (k_define (7 : Int32) (8 : Int32) (8 : Int32) (9 : Int32), .inl (0 : Int32)), (k_define (8 : Int32) (0 : Int32) (0 : Int32) (0 : Int32), .inl (0 : Int32)), (k_answer (8 : Int32) (10000 : Int32), .inl (0 : Int32)), (k_define (10 : Int32) (2 : Int32) (1 : Int32) (7 : Int32), .inl (0 : Int32)), (k_define (9 : Int32) (6 : Int32) (10 : Int32) (0 : Int32), .inl (0 : Int32)), (k_value (7 : Int32), .inl (93 : Int32)), (k_value (10 : Int32), .inl (187 : Int32)), (k_value (9 : Int32), .inl (93 : Int32))]
def ec_circles_6 : List ((Nat → Option ((Nat ⊕ Nat) × Nat)) × (Nat ⊕ Nat)) := [(g_bracket 0 500, .inl 1), (g_define 7 8 8 9, .inl 0), (g_define 8 0 0 0, .inl 0), (g_answer 8 10000, .inl 0), (g_define 10 2 1 7, .inl 0), (g_define 9 6 10 0, .inl 0), (g_value 7, .inl 93), (g_value 10, .inl 187), (g_value 9, .inl 93)]
set_option maxRecDepth 4000 in
theorem ss_circles_6 : zSims sc_circles_6 ec_circles_6 := zSc (h_bracket 0 500 rfl rfl) rfl (zSc (h_define 7 8 8 9 rfl rfl rfl rfl) rfl (zSc (h_define 8 0 0 0 rfl rfl rfl rfl) rfl (zSc (h_answer 8 10000 rfl rfl) rfl (zSc (h_define 10 2 1 7 rfl rfl rfl rfl) rfl (zSc (h_define 9 6 10 0 rfl rfl rfl rfl) rfl (zSc (h_value 7 rfl) rfl (zSc (h_value 10 rfl) rfl (zSc (h_value 9 rfl) rfl trivial))))))))
def sc_circles_7 : List ((zS → Option ((Int32 ⊕ Nat) × zS)) × (Int32 ⊕ Nat)) := [(k_boundFor (7 : Int32) (94 : Int32), .inl (93 : Int32)), (k_boundFor (7 : Int32) (0 : Int32), .inl (140 : Int32)), (k_dependsOn (7 : Int32) (1 : Int32), .inl (1 : Int32)), (k_dependsOn (1 : Int32) (7 : Int32), .inl (0 : Int32)), (k_why (7 : Int32) (1 : Int32), .inl (9 : Int32)), (k_why (7 : Int32) (2 : Int32), .inl (10 : Int32)), (k_why (7 : Int32) (3 : Int32), .inl (1 : Int32)), (k_why (7 : Int32) (4 : Int32), .inl (3 : Int32)), (k_why (7 : Int32) (7 : Int32), .inl (4 : Int32))]
def ec_circles_7 : List ((Nat → Option ((Nat ⊕ Nat) × Nat)) × (Nat ⊕ Nat)) := [(g_boundFor 7 94, .inl 93), (g_boundFor 7 0, .inl 140), (g_dependsOn 7 1, .inl 1), (g_dependsOn 1 7, .inl 0), (g_why 7 1, .inl 9), (g_why 7 2, .inl 10), (g_why 7 3, .inl 1), (g_why 7 4, .inl 3), (g_why 7 7, .inl 4)]
set_option maxRecDepth 4000 in
theorem ss_circles_7 : zSims sc_circles_7 ec_circles_7 := zSc (h_boundFor 7 94 rfl rfl) rfl (zSc (h_boundFor 7 0 rfl rfl) rfl (zSc (h_dependsOn 7 1 rfl rfl) rfl (zSc (h_dependsOn 1 7 rfl rfl) rfl (zSc (h_why 7 1 rfl rfl) rfl (zSc (h_why 7 2 rfl rfl) rfl (zSc (h_why 7 3 rfl rfl) rfl (zSc (h_why 7 4 rfl rfl) rfl (zSc (h_why 7 7 rfl rfl) rfl trivial))))))))
def sc_circles_8 : List ((zS → Option ((Int32 ⊕ Nat) × zS)) × (Int32 ⊕ Nat)) := [(k_why (7 : Int32) (8 : Int32), .inl (-1 : Int32))]
def ec_circles_8 : List ((Nat → Option ((Nat ⊕ Nat) × Nat)) × (Nat ⊕ Nat)) := [(g_why 7 8, .inl 4294967295)]
set_option maxRecDepth 4000 in
theorem ss_circles_8 : zSims sc_circles_8 ec_circles_8 := zSc (h_why 7 8 rfl rfl) (by decide) trivial
def sc_circles_9 : List ((zS → Option ((Int32 ⊕ Nat) × zS)) × (Int32 ⊕ Nat)) := zRef (0 : Int32) (0 : Int32) (0 : Int32)
def ec_circles_9 : List ((Nat → Option ((Nat ⊕ Nat) × Nat)) × (Nat ⊕ Nat)) := eRef 0 0 0
set_option maxRecDepth 4000 in
theorem ss_circles_9 : zSims sc_circles_9 ec_circles_9 := sRef 0 0 0 rfl rfl rfl
def sc_circles_10 : List ((zS → Option ((Int32 ⊕ Nat) × zS)) × (Int32 ⊕ Nat)) := []
def ec_circles_10 : List ((Nat → Option ((Nat ⊕ Nat) × Nat)) × (Nat ⊕ Nat)) := []
set_option maxRecDepth 4000 in
theorem ss_circles_10 : zSims sc_circles_10 ec_circles_10 := trivial
theorem ev_circles : (match e_X4_make 130 eS0 with | some (_, S) => (eRun (ec_circles_0 ++ (ec_circles_1 ++ (ec_circles_2 ++ (ec_circles_3 ++ (ec_circles_4 ++ (ec_circles_5 ++ (ec_circles_6 ++ (ec_circles_7 ++ (ec_circles_8 ++ (ec_circles_9 ++ (ec_circles_10))))))))))) S).isSome | none => false) = true := by decide +kernel
theorem runs_circles : ∃ (r9 : Int32) (s0 s1 s2 s3 s4 s5 s6 s7 s8 s9 s10 s11 : zS), m_X4_make 130 (zU (zU z0 21 5 (-1 : Int32)) 23 5 (-1 : Int32)) = some (r9, s0) ∧ zRun sc_circles_0 s0 s1 ∧ zRun sc_circles_1 s1 s2 ∧ zRun sc_circles_2 s2 s3 ∧ zRun sc_circles_3 s3 s4 ∧ zRun sc_circles_4 s4 s5 ∧ zRun sc_circles_5 s5 s6 ∧ zRun sc_circles_6 s6 s7 ∧ zRun sc_circles_7 s7 s8 ∧ zRun sc_circles_8 s8 s9 ∧ zRun sc_circles_9 s9 s10 ∧ zRun sc_circles_10 s10 s11 := by
  have h := ev_circles
  cases e : e_X4_make 130 eS0 with
  | none => rw [e] at h; cases h
  | some w =>
    obtain ⟨r, S⟩ := w
    rw [e] at h
    have h : (eRun (ec_circles_0 ++ (ec_circles_1 ++ (ec_circles_2 ++ (ec_circles_3 ++ (ec_circles_4 ++ (ec_circles_5 ++ (ec_circles_6 ++ (ec_circles_7 ++ (ec_circles_8 ++ (ec_circles_9 ++ (ec_circles_10))))))))))) S).isSome = true := h
    obtain ⟨T, hh⟩ := Option.isSome_iff_exists.mp h
    obtain ⟨U0, a0, hh⟩ := eRun_app hh
    obtain ⟨U1, a1, hh⟩ := eRun_app hh
    obtain ⟨U2, a2, hh⟩ := eRun_app hh
    obtain ⟨U3, a3, hh⟩ := eRun_app hh
    obtain ⟨U4, a4, hh⟩ := eRun_app hh
    obtain ⟨U5, a5, hh⟩ := eRun_app hh
    obtain ⟨U6, a6, hh⟩ := eRun_app hh
    obtain ⟨U7, a7, hh⟩ := eRun_app hh
    obtain ⟨U8, a8, hh⟩ := eRun_app hh
    obtain ⟨U9, a9, hh⟩ := eRun_app hh
    exact ⟨nI r, cS S, cS U0, cS U1, cS U2, cS U3, cS U4, cS U5, cS U6, cS U7, cS U8, cS U9, cS T, by rw [eS0_is]; exact s_X4_make 130 eS0 r S e, run_sim ss_circles_0 a0, run_sim ss_circles_1 a1, run_sim ss_circles_2 a2, run_sim ss_circles_3 a3, run_sim ss_circles_4 a4, run_sim ss_circles_5 a5, run_sim ss_circles_6 a6, run_sim ss_circles_7 a7, run_sim ss_circles_8 a8, run_sim ss_circles_9 a9, run_sim ss_circles_10 hh⟩
end PS_circles
