section PS_years
/-! the calls of years with their answers, as the document has them -/
def sc_years_0 : List ((zS → Option ((Int32 ⊕ Nat) × zS)) × (Int32 ⊕ Nat)) := [(k_carry (50 : Int32) (3 : Int32), .inl (50 : Int32)), (k_carry (20 : Int32) (1 : Int32), .inl (70 : Int32)), (k_carry (30 : Int32) (3 : Int32), .inl (100 : Int32)), (k_carry (5 : Int32) (0 : Int32), .inl (105 : Int32)), (k_carriedAt (0 : Int32), .inl (5 : Int32)), (k_carriedAt (1 : Int32), .inl (20 : Int32)), (k_carriedAt (2 : Int32), .inl (50 : Int32)), (k_carriedAt (3 : Int32), .inl (30 : Int32)), (k_carriedAt (4 : Int32), .inr 1)]
def ec_years_0 : List ((Nat → Option ((Nat ⊕ Nat) × Nat)) × (Nat ⊕ Nat)) := [(g_carry 50 3, .inl 50), (g_carry 20 1, .inl 70), (g_carry 30 3, .inl 100), (g_carry 5 0, .inl 105), (g_carriedAt 0, .inl 5), (g_carriedAt 1, .inl 20), (g_carriedAt 2, .inl 50), (g_carriedAt 3, .inl 30), (g_carriedAt 4, .inr 1)]
set_option maxRecDepth 4000 in
theorem ss_years_0 : zSims sc_years_0 ec_years_0 := zSc (h_carry 50 3 rfl rfl) rfl (zSc (h_carry 20 1 rfl rfl) rfl (zSc (h_carry 30 3 rfl rfl) rfl (zSc (h_carry 5 0 rfl rfl) rfl (zSc (h_carriedAt 0 rfl) rfl (zSc (h_carriedAt 1 rfl) rfl (zSc (h_carriedAt 2 rfl) rfl (zSc (h_carriedAt 3 rfl) rfl (zSc (h_carriedAt 4 rfl) rfl trivial))))))))
def sc_years_1 : List ((zS → Option ((Int32 ⊕ Nat) × zS)) × (Int32 ⊕ Nat)) := [(k_define (1 : Int32) (7 : Int32) (0 : Int32) (0 : Int32), .inl (0 : Int32)), (k_define (2 : Int32) (7 : Int32) (0 : Int32) (0 : Int32), .inl (0 : Int32)), (k_answer (0 : Int32) (40 : Int32), .inl (0 : Int32)), (k_value (1 : Int32), .inl (40 : Int32)), (k_closeYear, .inl (80 : Int32)), (k_year, .inl (1 : Int32)), (k_carried, .inl (25 : Int32)), (k_carriedAt (0 : Int32), .inl (25 : Int32)), (k_carriedAt (1 : Int32), .inr 1)]
def ec_years_1 : List ((Nat → Option ((Nat ⊕ Nat) × Nat)) × (Nat ⊕ Nat)) := [(g_define 1 7 0 0, .inl 0), (g_define 2 7 0 0, .inl 0), (g_answer 0 40, .inl 0), (g_value 1, .inl 40), (g_closeYear, .inl 80), (g_year, .inl 1), (g_carried, .inl 25), (g_carriedAt 0, .inl 25), (g_carriedAt 1, .inr 1)]
set_option maxRecDepth 4000 in
theorem ss_years_1 : zSims sc_years_1 ec_years_1 := zSc (h_define 1 7 0 0 rfl rfl rfl rfl) rfl (zSc (h_define 2 7 0 0 rfl rfl rfl rfl) rfl (zSc (h_answer 0 40 rfl rfl) rfl (zSc (h_value 1 rfl) rfl (zSc h_closeYear rfl (zSc h_year rfl (zSc h_carried rfl (zSc (h_carriedAt 0 rfl) rfl (zSc (h_carriedAt 1 rfl) rfl trivial))))))))
def sc_years_2 : List ((zS → Option ((Int32 ⊕ Nat) × zS)) × (Int32 ⊕ Nat)) := [(k_value (2 : Int32), .inl (25 : Int32)), (k_answer (0 : Int32) (20 : Int32), .inl (40 : Int32)), (k_closeYear, .inl (25 : Int32)), (k_carried, .inl (0 : Int32)), (k_year, .inl (2 : Int32)), (k_value (1 : Int32), .inl (0 : Int32)), (k_carry (7 : Int32) (2 : Int32), .inl (7 : Int32)), (k_answer (0 : Int32) (3 : Int32), .inl (20 : Int32)), (k_closeYear, .inl (6 : Int32))]
def ec_years_2 : List ((Nat → Option ((Nat ⊕ Nat) × Nat)) × (Nat ⊕ Nat)) := [(g_value 2, .inl 25), (g_answer 0 20, .inl 40), (g_closeYear, .inl 25), (g_carried, .inl 0), (g_year, .inl 2), (g_value 1, .inl 0), (g_carry 7 2, .inl 7), (g_answer 0 3, .inl 20), (g_closeYear, .inl 6)]
set_option maxRecDepth 4000 in
theorem ss_years_2 : zSims sc_years_2 ec_years_2 := zSc (h_value 2 rfl) rfl (zSc (h_answer 0 20 rfl rfl) rfl (zSc h_closeYear rfl (zSc h_carried rfl (zSc h_year rfl (zSc (h_value 1 rfl) rfl (zSc (h_carry 7 2 rfl rfl) rfl (zSc (h_answer 0 3 rfl rfl) rfl (zSc h_closeYear rfl trivial))))))))
def sc_years_3 : List ((zS → Option ((Int32 ⊕ Nat) × zS)) × (Int32 ⊕ Nat)) := [(k_carried, .inl (0 : Int32)), (k_year, .inl (3 : Int32))]
def ec_years_3 : List ((Nat → Option ((Nat ⊕ Nat) × Nat)) × (Nat ⊕ Nat)) := [(g_carried, .inl 0), (g_year, .inl 3)]
set_option maxRecDepth 4000 in
theorem ss_years_3 : zSims sc_years_3 ec_years_3 := zSc h_carried rfl (zSc h_year rfl trivial)
def sc_years_4 : List ((zS → Option ((Int32 ⊕ Nat) × zS)) × (Int32 ⊕ Nat)) := zRef (3 : Int32) (0 : Int32) (0 : Int32)
def ec_years_4 : List ((Nat → Option ((Nat ⊕ Nat) × Nat)) × (Nat ⊕ Nat)) := eRef 3 0 0
set_option maxRecDepth 4000 in
theorem ss_years_4 : zSims sc_years_4 ec_years_4 := sRef 3 0 0 rfl rfl rfl
def sc_years_5 : List ((zS → Option ((Int32 ⊕ Nat) × zS)) × (Int32 ⊕ Nat)) := [(k_carry (10 : Int32) (3 : Int32), .inl (10 : Int32)), (k_carry (10 : Int32) (4 : Int32), .inl (20 : Int32)), (k_carry (10 : Int32) (5 : Int32), .inl (30 : Int32)), (k_carry (10 : Int32) (6 : Int32), .inl (40 : Int32)), (k_carry (10 : Int32) (7 : Int32), .inl (50 : Int32)), (k_carry (10 : Int32) (8 : Int32), .inl (60 : Int32)), (k_carry (10 : Int32) (9 : Int32), .inl (70 : Int32)), (k_carry (10 : Int32) (10 : Int32), .inl (80 : Int32)), (k_carry (10 : Int32) (11 : Int32), .inr 3)]
def ec_years_5 : List ((Nat → Option ((Nat ⊕ Nat) × Nat)) × (Nat ⊕ Nat)) := [(g_carry 10 3, .inl 10), (g_carry 10 4, .inl 20), (g_carry 10 5, .inl 30), (g_carry 10 6, .inl 40), (g_carry 10 7, .inl 50), (g_carry 10 8, .inl 60), (g_carry 10 9, .inl 70), (g_carry 10 10, .inl 80), (g_carry 10 11, .inr 3)]
set_option maxRecDepth 4000 in
theorem ss_years_5 : zSims sc_years_5 ec_years_5 := zSc (h_carry 10 3 rfl rfl) rfl (zSc (h_carry 10 4 rfl rfl) rfl (zSc (h_carry 10 5 rfl rfl) rfl (zSc (h_carry 10 6 rfl rfl) rfl (zSc (h_carry 10 7 rfl rfl) rfl (zSc (h_carry 10 8 rfl rfl) rfl (zSc (h_carry 10 9 rfl rfl) rfl (zSc (h_carry 10 10 rfl rfl) rfl (zSc (h_carry 10 11 rfl rfl) rfl trivial))))))))
def sc_years_6 : List ((zS → Option ((Int32 ⊕ Nat) × zS)) × (Int32 ⊕ Nat)) := [(k_bestSum (0 : Int32), .inl (0 : Int32)), (k_afterCredits (0 : Int32), .inl (3 : Int32)), (k_creditAt (0 : Int32) (0 : Int32), .inr 1), (k_dropCredit, .inr 3), (k_answer (0 : Int32) (100 : Int32), .inl (3 : Int32)), (k_addCredit (80 : Int32) (500 : Int32), .inl (0 : Int32)), (k_addCredit (60 : Int32) (999 : Int32), .inl (1 : Int32)), (k_afterCredits (0 : Int32), .inl (0 : Int32)), (k_bestSum (0 : Int32), .inl (139 : Int32))]
def ec_years_6 : List ((Nat → Option ((Nat ⊕ Nat) × Nat)) × (Nat ⊕ Nat)) := [(g_bestSum 0, .inl 0), (g_afterCredits 0, .inl 3), (g_creditAt 0 0, .inr 1), (g_dropCredit, .inr 3), (g_answer 0 100, .inl 3), (g_addCredit 80 500, .inl 0), (g_addCredit 60 999, .inl 1), (g_afterCredits 0, .inl 0), (g_bestSum 0, .inl 139)]
set_option maxRecDepth 4000 in
theorem ss_years_6 : zSims sc_years_6 ec_years_6 := zSc (h_bestSum 0 rfl) rfl (zSc (h_afterCredits 0 rfl) rfl (zSc (h_creditAt 0 0 rfl rfl) rfl (zSc h_dropCredit rfl (zSc (h_answer 0 100 rfl rfl) rfl (zSc (h_addCredit 80 500 rfl rfl) rfl (zSc (h_addCredit 60 999 rfl rfl) rfl (zSc (h_afterCredits 0 rfl) rfl (zSc (h_bestSum 0 rfl) rfl trivial))))))))
def sc_years_7 : List ((zS → Option ((Int32 ⊕ Nat) × zS)) × (Int32 ⊕ Nat)) := [(k_creditAt (0 : Int32) (0 : Int32), .inl (0 : Int32)), (k_creditAt (0 : Int32) (1 : Int32), .inl (1 : Int32)), (k_creditAt (0 : Int32) (2 : Int32), .inr 1), (k_addCredit (30 : Int32) (500 : Int32), .inl (2 : Int32)), (k_bestSum (0 : Int32), .inl (164 : Int32)), (k_creditAt (0 : Int32) (0 : Int32), .inl (0 : Int32)), (k_creditAt (0 : Int32) (1 : Int32), .inl (2 : Int32)), (k_creditAt (0 : Int32) (2 : Int32), .inl (1 : Int32)), (k_answer (0 : Int32) (200 : Int32), .inl (100 : Int32))]
def ec_years_7 : List ((Nat → Option ((Nat ⊕ Nat) × Nat)) × (Nat ⊕ Nat)) := [(g_creditAt 0 0, .inl 0), (g_creditAt 0 1, .inl 1), (g_creditAt 0 2, .inr 1), (g_addCredit 30 500, .inl 2), (g_bestSum 0, .inl 164), (g_creditAt 0 0, .inl 0), (g_creditAt 0 1, .inl 2), (g_creditAt 0 2, .inl 1), (g_answer 0 200, .inl 100)]
set_option maxRecDepth 4000 in
theorem ss_years_7 : zSims sc_years_7 ec_years_7 := zSc (h_creditAt 0 0 rfl rfl) rfl (zSc (h_creditAt 0 1 rfl rfl) rfl (zSc (h_creditAt 0 2 rfl rfl) rfl (zSc (h_addCredit 30 500 rfl rfl) rfl (zSc (h_bestSum 0 rfl) rfl (zSc (h_creditAt 0 0 rfl rfl) rfl (zSc (h_creditAt 0 1 rfl rfl) rfl (zSc (h_creditAt 0 2 rfl rfl) rfl (zSc (h_answer 0 200 rfl rfl) rfl trivial))))))))
def sc_years_8 : List ((zS → Option ((Int32 ⊕ Nat) × zS)) × (Int32 ⊕ Nat)) := [(k_afterCredits (0 : Int32), .inl (30 : Int32)), (k_bestSum (0 : Int32), .inl (170 : Int32)), (k_creditAt (0 : Int32) (2 : Int32), .inl (2 : Int32))]
def ec_years_8 : List ((Nat → Option ((Nat ⊕ Nat) × Nat)) × (Nat ⊕ Nat)) := [(g_afterCredits 0, .inl 30), (g_bestSum 0, .inl 170), (g_creditAt 0 2, .inl 2)]
set_option maxRecDepth 4000 in
theorem ss_years_8 : zSims sc_years_8 ec_years_8 := zSc (h_afterCredits 0 rfl) rfl (zSc (h_bestSum 0 rfl) rfl (zSc (h_creditAt 0 2 rfl rfl) rfl trivial))
def sc_years_9 : List ((zS → Option ((Int32 ⊕ Nat) × zS)) × (Int32 ⊕ Nat)) := zRef (3 : Int32) (80 : Int32) (0 : Int32)
def ec_years_9 : List ((Nat → Option ((Nat ⊕ Nat) × Nat)) × (Nat ⊕ Nat)) := eRef 3 80 0
set_option maxRecDepth 4000 in
theorem ss_years_9 : zSims sc_years_9 ec_years_9 := sRef 3 80 0 rfl rfl rfl
def sc_years_10 : List ((zS → Option ((Int32 ⊕ Nat) × zS)) × (Int32 ⊕ Nat)) := [(k_dropCredit, .inl (2 : Int32)), (k_afterCredits (0 : Int32), .inl (60 : Int32)), (k_addCredit (1 : Int32) (1000 : Int32), .inl (2 : Int32)), (k_addCredit (1 : Int32) (0 : Int32), .inl (3 : Int32)), (k_addCredit (1 : Int32) (0 : Int32), .inl (4 : Int32)), (k_addCredit (1 : Int32) (0 : Int32), .inr 3), (k_afterCredits (0 : Int32), .inl (57 : Int32)), (k_dropCredit, .inl (4 : Int32)), (k_dropCredit, .inl (3 : Int32))]
def ec_years_10 : List ((Nat → Option ((Nat ⊕ Nat) × Nat)) × (Nat ⊕ Nat)) := [(g_dropCredit, .inl 2), (g_afterCredits 0, .inl 60), (g_addCredit 1 1000, .inl 2), (g_addCredit 1 0, .inl 3), (g_addCredit 1 0, .inl 4), (g_addCredit 1 0, .inr 3), (g_afterCredits 0, .inl 57), (g_dropCredit, .inl 4), (g_dropCredit, .inl 3)]
set_option maxRecDepth 4000 in
theorem ss_years_10 : zSims sc_years_10 ec_years_10 := zSc h_dropCredit rfl (zSc (h_afterCredits 0 rfl) rfl (zSc (h_addCredit 1 1000 rfl rfl) rfl (zSc (h_addCredit 1 0 rfl rfl) rfl (zSc (h_addCredit 1 0 rfl rfl) rfl (zSc (h_addCredit 1 0 rfl rfl) rfl (zSc (h_afterCredits 0 rfl) rfl (zSc h_dropCredit rfl (zSc h_dropCredit rfl trivial))))))))
def sc_years_11 : List ((zS → Option ((Int32 ⊕ Nat) × zS)) × (Int32 ⊕ Nat)) := [(k_dropCredit, .inl (2 : Int32)), (k_dropCredit, .inl (1 : Int32)), (k_dropCredit, .inl (0 : Int32)), (k_dropCredit, .inr 3)]
def ec_years_11 : List ((Nat → Option ((Nat ⊕ Nat) × Nat)) × (Nat ⊕ Nat)) := [(g_dropCredit, .inl 2), (g_dropCredit, .inl 1), (g_dropCredit, .inl 0), (g_dropCredit, .inr 3)]
set_option maxRecDepth 4000 in
theorem ss_years_11 : zSims sc_years_11 ec_years_11 := zSc h_dropCredit rfl (zSc h_dropCredit rfl (zSc h_dropCredit rfl (zSc h_dropCredit rfl trivial)))
def sc_years_12 : List ((zS → Option ((Int32 ⊕ Nat) × zS)) × (Int32 ⊕ Nat)) := zRef (3 : Int32) (80 : Int32) (0 : Int32)
def ec_years_12 : List ((Nat → Option ((Nat ⊕ Nat) × Nat)) × (Nat ⊕ Nat)) := eRef 3 80 0
set_option maxRecDepth 4000 in
theorem ss_years_12 : zSims sc_years_12 ec_years_12 := sRef 3 80 0 rfl rfl rfl
def sc_years_13 : List ((zS → Option ((Int32 ⊕ Nat) × zS)) × (Int32 ⊕ Nat)) := []
def ec_years_13 : List ((Nat → Option ((Nat ⊕ Nat) × Nat)) × (Nat ⊕ Nat)) := []
set_option maxRecDepth 4000 in
theorem ss_years_13 : zSims sc_years_13 ec_years_13 := trivial
theorem ev_years : (match e_X4_make 130 eS0 with | some (_, S) => (eRun (ec_years_0 ++ (ec_years_1 ++ (ec_years_2 ++ (ec_years_3 ++ (ec_years_4 ++ (ec_years_5 ++ (ec_years_6 ++ (ec_years_7 ++ (ec_years_8 ++ (ec_years_9 ++ (ec_years_10 ++ (ec_years_11 ++ (ec_years_12 ++ (ec_years_13)))))))))))))) S).isSome | none => false) = true := by decide +kernel
theorem runs_years : ∃ (r9 : Int32) (s0 s1 s2 s3 s4 s5 s6 s7 s8 s9 s10 s11 s12 s13 s14 : zS), m_X4_make 130 (zU (zU z0 21 5 (-1 : Int32)) 23 5 (-1 : Int32)) = some (r9, s0) ∧ zRun sc_years_0 s0 s1 ∧ zRun sc_years_1 s1 s2 ∧ zRun sc_years_2 s2 s3 ∧ zRun sc_years_3 s3 s4 ∧ zRun sc_years_4 s4 s5 ∧ zRun sc_years_5 s5 s6 ∧ zRun sc_years_6 s6 s7 ∧ zRun sc_years_7 s7 s8 ∧ zRun sc_years_8 s8 s9 ∧ zRun sc_years_9 s9 s10 ∧ zRun sc_years_10 s10 s11 ∧ zRun sc_years_11 s11 s12 ∧ zRun sc_years_12 s12 s13 ∧ zRun sc_years_13 s13 s14 := by
  have h := ev_years
  cases e : e_X4_make 130 eS0 with
  | none => rw [e] at h; cases h
  | some w =>
    obtain ⟨r, S⟩ := w
    rw [e] at h
    have h : (eRun (ec_years_0 ++ (ec_years_1 ++ (ec_years_2 ++ (ec_years_3 ++ (ec_years_4 ++ (ec_years_5 ++ (ec_years_6 ++ (ec_years_7 ++ (ec_years_8 ++ (ec_years_9 ++ (ec_years_10 ++ (ec_years_11 ++ (ec_years_12 ++ (ec_years_13)))))))))))))) S).isSome = true := h
    obtain ⟨T, hh⟩ := Option.isSome_iff_exists.mp h
    obtain ⟨U0, a0, hh⟩ := eRun_app hh
    obtain ⟨U1, a1, hh⟩ := eRun_app hh
    obtain ⟨U2, a2, hh⟩ := eRun_app hh
    obtain ⟨U3, a3, hh⟩ := eRun_app hh
    obtain ⟨U4, a4, hh⟩ := eRun_app hh
    obtain ⟨U5, a5, hh⟩ := eRun_app hh
    obtain ⟨U6, a6, hh⟩ := eRun_app hh
    obtain ⟨U7, a7, hh⟩ := eRun_app hh
    obtain ⟨U8, a8, hh⟩ := eRun_app hh
    obtain ⟨U9, a9, hh⟩ := eRun_app hh
    obtain ⟨U10, a10, hh⟩ := eRun_app hh
    obtain ⟨U11, a11, hh⟩ := eRun_app hh
    obtain ⟨U12, a12, hh⟩ := eRun_app hh
    exact ⟨nI r, cS S, cS U0, cS U1, cS U2, cS U3, cS U4, cS U5, cS U6, cS U7, cS U8, cS U9, cS U10, cS U11, cS U12, cS T, by rw [eS0_is]; exact s_X4_make 130 eS0 r S e, run_sim ss_years_0 a0, run_sim ss_years_1 a1, run_sim ss_years_2 a2, run_sim ss_years_3 a3, run_sim ss_years_4 a4, run_sim ss_years_5 a5, run_sim ss_years_6 a6, run_sim ss_years_7 a7, run_sim ss_years_8 a8, run_sim ss_years_9 a9, run_sim ss_years_10 a10, run_sim ss_years_11 a11, run_sim ss_years_12 a12, run_sim ss_years_13 hh⟩
end PS_years
