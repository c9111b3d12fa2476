set_option maxRecDepth 100000 in
set_option maxHeartbeats 4000000 in
theorem coL_years {h : zH} {ad0 : Nat → Nat} (hI0 : zI ad0 ([] : List zK).length) (hst : h.1.stackTraces = false) {σ : zS} : zMk 1000 6000 h ad0 ([] : List zK) yL_years wq_years 11 241 [] σ 1 σ := by
  obtain ⟨r9, s0, s1, s2, s3, s4, s5, s6, s7, s8, s9, s10, s11, s12, s13, s14, hm, h0, h1, h2, h3, h4, h5, h6, h7, h8, h9, h10, h11, h12, h13⟩ := runs_years
  refine z_startK (f := 1000) (cc := cL_years) (nL := 2) (own := RL) (by decide +kernel) rfl rfl hI0 hst (Nat.le_of_ble_eq_true rfl) (by decide) (fun G C hQ hB => ?_)
  show zV h ad0 ([] : List zK) 2 G σ 0 [] []
  refine z_engine (f := 958) C (fun w hw => List.mem_cons_of_mem _ hw) (gc gq_init) (by decide) (by decide) hm hB dL_years_0 dL_years_3 dL_years_4 (fun ad hI hAi => ?_)
  have hB1 : zBud G 42 := zBud_le hB (Nat.le_of_ble_eq_true rfl)
  have C := zC_e27 C hI hAi hB1
  have hQ := zQm_of (ad := ad) (a := 27) (b := 252) hQ hAi
  have hB := zBud_e (f := 958) hB
  refine z_astore_n (lv' := [(0, .ref (ad 0))]) C dL_years_7 rfl (by decide) rfl ?_
  have hp : ∀ G, zQm 1000 6000 h ad0 σ ad G → zQm 1000 6000 h ad0 σ ad (zGp G) := fun G q => zQm_p q
  have hq : ∀ G, zQm 1000 6000 h ad0 σ ad G → zQm 1000 6000 h ad0 σ ad (zGa G 180 1080) := fun G q => zQm_a q
  refine wL_years_0 (f := 957) C hp hq hQ hB h0 (fun G C hQ hB => ?_)
  refine wL_years_1 (f := 954) C hp hq hQ hB h1 (fun G C hQ hB => ?_)
  refine wL_years_2 (f := 954) C hp hq hQ hB h2 (fun G C hQ hB => ?_)
  refine wL_years_3 (f := 954) C hp hq hQ hB h3 (fun G C hQ hB => ?_)
  refine wL_years_4 (f := 774) C hp hq hQ hB h4 (fun G C hQ hB => ?_)
  refine wL_years_5 (f := 765) C hp hq hQ hB h5 (fun G C hQ hB => ?_)
  refine wL_years_6 (f := 763) C hp hq hQ hB h6 (fun G C hQ hB => ?_)
  refine wL_years_7 (f := 762) C hp hq hQ hB h7 (fun G C hQ hB => ?_)
  refine wL_years_8 (f := 762) C hp hq hQ hB h8 (fun G C hQ hB => ?_)
  refine wL_years_9 (f := 582) C hp hq hQ hB h9 (fun G C hQ hB => ?_)
  refine wL_years_10 (f := 581) C hp hq hQ hB h10 (fun G C hQ hB => ?_)
  refine wL_years_11 (f := 580) C hp hq hQ hB h11 (fun G C hQ hB => ?_)
  refine wL_years_12 (f := 400) C hp hq hQ hB h12 (fun G C hQ hB => ?_)
  refine wL_years_13 (f := 400) C hp hq hQ hB h13 (fun G C hQ hB => ?_)
  exact z_mret C hQ dL_years_731
