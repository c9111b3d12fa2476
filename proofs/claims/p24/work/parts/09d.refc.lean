set_option maxRecDepth 100000 in
set_option maxHeartbeats 4000000 in
theorem coL_refuses {h : zH} {ad : Nat → Nat} (hI : zI ad zLX.length) (hst : h.1.stackTraces = false) {y c v : Int32} (hy1 : 0 ≤ y) (hy2 : y ≤ 1000) {s s9 : zS} (hr : zRun (zRef y c v) s s9) : zMk 180 1080 h ad zLX yL_refuses wsL_refuses 10 210 [.ref (ad 0)] s 1 s9 := by
  have hc := yr_cases hy1 hy2
  obtain ⟨t1, q1, t2, q2, t3, q3, t4, q0, t5, q4, t6, q5, t7, q6, t8, q7, e9⟩ := hr
  have e9 : t8 = s9 := e9
  obtain ⟨hRI, e0⟩ := zRIs_of q0
  have q1 : m_X7_year 130 s = some (y, t1) := zNl_of q1
  have q2 : m_X7_carried 130 t1 = some (c, t2) := zNl_of q2
  have q3 : m_X7_value 130 (15 : Int32) t2 = some (.inl v, t3) := q3
  have q4 : m_X7_year 130 t4 = some (y, t5) := zNl_of q4
  have q5 : m_X7_carried 130 t5 = some (c, t6) := zNl_of q5
  have q6 : m_X7_value 130 (15 : Int32) t6 = some (.inl v, t7) := q6
  have q7 : m_X7_kindOf 130 (15 : Int32) t7 = some (.inl 0, t8) := q7
  subst e0; subst e9
  refine z_startK (f := 180) (cc := cL_refuses) (nL := 12) (own := RL) (by decide +kernel) rfl rfl hI hst (Nat.le_of_ble_eq_true rfl) (by decide) (fun G C hQ hB => ?_)
  show zV h ad zLX 12 G s 0 [(0, .ref (ad 0))] []
  have hp : ∀ G, zQf 180 1080 h ad zLX 1 t8 G → zQf 180 1080 h ad zLX 1 t8 (zGp G) := fun G q => zQf_p q
  refine z_aload_n C dL_refuses_0 rfl 0 rfl ?_
  refine z_cV (vd := false) (Cn := RX7) (k := 0) C 0 [] [] (c_X7_year (zC_I C) (zC_st C) q1) gL_refuses_X7_year (by decide +kernel) kX0 vc7 rfl rfl dL_refuses_1 rfl ⟨Nat.le_of_ble_eq_true rfl, Nat.le_of_ble_eq_true rfl⟩ rfl (Nat.le_of_ble_eq_true rfl) ?_
  refine z_istore_n (y := y) (lv' := [(1, .int y), (0, .ref (ad 0))]) C dL_refuses_4 rfl (by decide) rfl rfl ?_
  refine z_aload_n C dL_refuses_5 rfl 1 rfl ?_
  refine z_cV (vd := false) (Cn := RX7) (k := 0) C 0 [] [] (c_X7_carried (zC_I C) (zC_st C) q2) gL_refuses_X7_carried (by decide +kernel) kX0 vc7 rfl rfl dL_refuses_6 rfl ⟨Nat.le_of_ble_eq_true rfl, Nat.le_of_ble_eq_true rfl⟩ rfl (Nat.le_of_ble_eq_true rfl) ?_
  refine z_istore_n (y := c) (lv' := [(2, .int c), (1, .int y), (0, .ref (ad 0))]) C dL_refuses_9 rfl (by decide) rfl rfl ?_
  refine z_aload_n C dL_refuses_10 rfl 2 rfl ?_
  refine z_bipush (v := (15 : Int32)) C dL_refuses_11 (by decide) ?_
  refine z_cV (vd := false) (Cn := RX7) (k := 0) C 1 [.int (15 : Int32)] [] (c_X7_value (zC_I C) (zC_st C) q3) gL_refuses_X7_value (by decide +kernel) kX0 vc7 rfl rfl dL_refuses_13 rfl ⟨Nat.le_of_ble_eq_true rfl, Nat.le_of_ble_eq_true rfl⟩ rfl (Nat.le_of_ble_eq_true rfl) ?_
  refine z_istore_n (y := v) (lv' := [(3, .int v), (2, .int c), (1, .int y), (0, .ref (ad 0))]) C dL_refuses_16 rfl (by decide) rfl rfl ?_
  refine z_ldc (v := (2147483647 : Int32)) C eL_refuses_c77 dL_refuses_17 ?_
  refine z_istore (y := (2147483647 : Int32)) (lv' := [(4, .int (2147483647 : Int32)), (3, .int v), (2, .int c), (1, .int y), (0, .ref (ad 0))]) C dL_refuses_19 (by decide) rfl rfl ?_
  refine z_iconst (v := (0 : Int32)) C dL_refuses_21 (by decide) ?_
  refine z_istore (y := (0 : Int32)) (lv' := [(5, .int (0 : Int32)), (4, .int (2147483647 : Int32)), (3, .int v), (2, .int c), (1, .int y), (0, .ref (ad 0))]) C dL_refuses_22 (by decide) rfl rfl ?_
  refine wL_refuses_0 (f := 173) (c := c) (v := v) C hp hQ hB hRI hc (fun G C hQ hB => ?_)
  refine wL_refuses_1 (f := 166) (c := c) (v := v) C hp hQ hB hRI hc (fun G C hQ hB => ?_)
  refine wL_refuses_2 (f := 159) (c := c) (v := v) C hp hQ hB hRI hc (fun G C hQ hB => ?_)
  refine wL_refuses_3 (f := 152) (c := c) (v := v) C hp hQ hB hRI hc (fun G C hQ hB => ?_)
  refine wL_refuses_4 (f := 145) (c := c) (v := v) C hp hQ hB hRI hc (fun G C hQ hB => ?_)
  refine wL_refuses_5 (f := 138) (c := c) (v := v) C hp hQ hB hRI hc (fun G C hQ hB => ?_)
  refine wL_refuses_6 (f := 131) (c := c) (v := v) C hp hQ hB hRI hc (fun G C hQ hB => ?_)
  refine wL_refuses_7 (f := 124) (c := c) (v := v) C hp hQ hB hRI hc (fun G C hQ hB => ?_)
  refine wL_refuses_8 (f := 117) (c := c) (v := v) C hp hQ hB hRI hc (fun G C hQ hB => ?_)
  refine wL_refuses_9 (f := 110) (c := c) (v := v) C hp hQ hB hRI hc (fun G C hQ hB => ?_)
  refine wL_refuses_10 (f := 103) (c := c) (v := v) C hp hQ hB hRI hc (fun G C hQ hB => ?_)
  refine wL_refuses_11 (f := 96) (c := c) (v := v) C hp hQ hB hRI hc (fun G C hQ hB => ?_)
  refine wL_refuses_12 (f := 89) (c := c) (v := v) C hp hQ hB hRI hc (fun G C hQ hB => ?_)
  refine wL_refuses_13 (f := 82) (c := c) (v := v) C hp hQ hB hRI hc (fun G C hQ hB => ?_)
  refine wL_refuses_14 (f := 75) (c := c) (v := v) C hp hQ hB hRI hc (fun G C hQ hB => ?_)
  refine wL_refuses_15 (f := 68) (c := c) (v := v) C hp hQ hB hRI hc (fun G C hQ hB => ?_)
  refine wL_refuses_16 (f := 61) (c := c) (v := v) C hp hQ hB hRI hc (fun G C hQ hB => ?_)
  refine wL_refuses_17 (f := 54) (c := c) (v := v) C hp hQ hB hRI hc (fun G C hQ hB => ?_)
  refine wL_refuses_18 (f := 48) (c := c) (v := v) C hp hQ hB hRI hc (fun G C hQ hB => ?_)
  refine z_cV (vd := false) (Cn := RX7) (k := 0) C 0 [] [] (c_X7_year (zC_I C) (zC_st C) q4) gL_refuses_X7_year (by decide +kernel) kX0 vc7 rfl rfl dL_refuses_716 rfl ⟨Nat.le_of_ble_eq_true rfl, Nat.le_of_ble_eq_true rfl⟩ rfl (Nat.le_of_ble_eq_true rfl) ?_
  refine z_iload_n C dL_refuses_719 rfl 10 rfl ?_
  refine z_icmp_ne (tgt := 754) C dL_refuses_720 (by decide) (fun c => absurd rfl c) (fun _ => ?_)
  refine z_aload_n C dL_refuses_723 rfl 11 rfl ?_
  refine z_cV (vd := false) (Cn := RX7) (k := 0) C 0 [] [] (c_X7_carried (zC_I C) (zC_st C) q5) gL_refuses_X7_carried (by decide +kernel) kX0 vc7 rfl rfl dL_refuses_724 rfl ⟨Nat.le_of_ble_eq_true rfl, Nat.le_of_ble_eq_true rfl⟩ rfl (Nat.le_of_ble_eq_true rfl) ?_
  refine z_iload_n C dL_refuses_727 rfl 9 rfl ?_
  refine z_icmp_ne (tgt := 754) C dL_refuses_728 (by decide) (fun c => absurd rfl c) (fun _ => ?_)
  refine z_aload_n C dL_refuses_731 rfl 11 rfl ?_
  refine z_bipush (v := (15 : Int32)) C dL_refuses_732 (by decide) ?_
  refine z_cV (vd := false) (Cn := RX7) (k := 0) C 1 [.int (15 : Int32)] [] (c_X7_value (zC_I C) (zC_st C) q6) gL_refuses_X7_value (by decide +kernel) kX0 vc7 rfl rfl dL_refuses_734 rfl ⟨Nat.le_of_ble_eq_true rfl, Nat.le_of_ble_eq_true rfl⟩ rfl (Nat.le_of_ble_eq_true rfl) ?_
  refine z_iload_n C dL_refuses_737 rfl 8 rfl ?_
  refine z_icmp_ne (tgt := 754) C dL_refuses_738 (by decide) (fun c => absurd rfl c) (fun _ => ?_)
  refine z_aload_n C dL_refuses_741 rfl 11 rfl ?_
  refine z_bipush (v := (15 : Int32)) C dL_refuses_742 (by decide) ?_
  refine z_cV (vd := false) (Cn := RX7) (k := 0) C 1 [.int (15 : Int32)] [] (c_X7_kindOf (zC_I C) (zC_st C) q7) gL_refuses_X7_kindOf (by decide +kernel) kX0 vc7 rfl rfl dL_refuses_744 rfl ⟨Nat.le_of_ble_eq_true rfl, Nat.le_of_ble_eq_true rfl⟩ rfl (Nat.le_of_ble_eq_true rfl) ?_
  refine z_if_ne (tgt := 754) C dL_refuses_747 (by decide) (fun c => absurd (by decide) c) (fun _ => ?_)
  refine z_iconst (v := (1 : Int32)) C dL_refuses_750 (by decide) ?_
  refine z_goto (tgt := 755) C dL_refuses_751 (by decide) ?_
  exact z_fret C hQ rfl rfl (by decide) dL_refuses_755
