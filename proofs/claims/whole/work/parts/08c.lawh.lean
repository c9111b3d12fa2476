set_option maxRecDepth 100000 in
theorem eL_define_k13 : Cond.classLink RL 13 (zEx 1) ∈ wsL_define := by decide +kernel
set_option maxRecDepth 100000 in
theorem eL_define_k15 : Cond.classLink RL 15 (zEx 2) ∈ wsL_define := by decide +kernel
set_option maxRecDepth 100000 in
theorem eL_define_k17 : Cond.classLink RL 17 (zEx 3) ∈ wsL_define := by decide +kernel
set_option maxRecDepth 100000 in
set_option maxHeartbeats 4000000 in
theorem w_L_define {h : zH} {ad : Nat → Nat} {G : zG} (C : zCT (tableOf [(0, 9, 12, 13), (0, 9, 16, 15), (0, 9, 20, 17)]) h ad zLL 6 G cL_define RL wsL_define 9 168) {n : Nat} {r : Int32} {s9 : zS} (hQ : zQh h ad zLL G r s9 (some .int)) {v1 : Int32} {v2 : Int32} {v3 : Int32} {v4 : Int32} {s : zS} (hm : m_L_define n v1 v2 v3 v4 s = some (r, s9)) : zV h ad zLL 6 G s 0 [(0, .ref (ad 0)), (1, .int v1), (2, .int v2), (3, .int v3), (4, .int v4)] [] := by
  rw [m_L_define] at hm
  refine z_aload_n C dL_define_0 rfl 0 rfl ?_
  refine z_iload_n C dL_define_1 rfl 1 rfl ?_
  refine z_iload_n C dL_define_2 rfl 2 rfl ?_
  refine z_iload_n C dL_define_3 rfl 3 rfl ?_
  refine z_iload C dL_define_4 4 rfl ?_
  rcases zHx_of hm with h_s2 | ⟨k, s2, q_s2, hm⟩
  rotate_left
  · by_cases hk1 : k = 1
    · subst hk1; have hm := zIt hm rfl
      exact z_hx (ex := 1) (vd := true) (Cn := RX7) (k := 0) (o := 0) C 4 [.int v1, .int v2, .int v3, .int v4] [] sX (c_X7_define (zI_sub sX (zC_I C)) (zC_st C) q_s2) hQ gL_define_X7_define (by decide +kernel) kX0 vc7 rfl rfl dL_define_6 rfl ⟨Nat.le_of_ble_eq_true rfl, Nat.le_of_ble_eq_true rfl⟩ rfl (Nat.le_of_ble_eq_true rfl) [] ⟨0, 9, 12, 13⟩ [⟨0, 9, 16, 15⟩, ⟨0, 9, 20, 17⟩] rfl (fun z hz => absurd hz List.not_mem_nil) (by decide) (by decide) eL_define_k13 (Or.inl ⟨dL_define_12, rfl⟩) (by decide) (by decide) dL_define_14 dL_define_15 (Sum.inl.inj (zRt_of hm).1) (zRt_of hm).2
    have hm := zIf hm hk1
    by_cases hk2 : k = 2
    · subst hk2; have hm := zIt hm rfl
      exact z_hx (ex := 2) (vd := true) (Cn := RX7) (k := 0) (o := 0) C 4 [.int v1, .int v2, .int v3, .int v4] [] sX (c_X7_define (zI_sub sX (zC_I C)) (zC_st C) q_s2) hQ gL_define_X7_define (by decide +kernel) kX0 vc7 rfl rfl dL_define_6 rfl ⟨Nat.le_of_ble_eq_true rfl, Nat.le_of_ble_eq_true rfl⟩ rfl (Nat.le_of_ble_eq_true rfl) [⟨0, 9, 12, 13⟩] ⟨0, 9, 16, 15⟩ [⟨0, 9, 20, 17⟩] rfl (by intro z hz; simp only [List.mem_cons, List.not_mem_nil, or_false] at hz; subst hz; exact ⟨by decide, 1, eL_define_k13, by decide⟩) (by decide) (by decide) eL_define_k15 (Or.inl ⟨dL_define_16, rfl⟩) (by decide) (by decide) dL_define_18 dL_define_19 (Sum.inl.inj (zRt_of hm).1) (zRt_of hm).2
    have hm := zIf hm hk2
    by_cases hk3 : k = 3
    · subst hk3; have hm := zIt hm rfl
      exact z_hx (ex := 3) (vd := true) (Cn := RX7) (k := 0) (o := 0) C 4 [.int v1, .int v2, .int v3, .int v4] [] sX (c_X7_define (zI_sub sX (zC_I C)) (zC_st C) q_s2) hQ gL_define_X7_define (by decide +kernel) kX0 vc7 rfl rfl dL_define_6 rfl ⟨Nat.le_of_ble_eq_true rfl, Nat.le_of_ble_eq_true rfl⟩ rfl (Nat.le_of_ble_eq_true rfl) [⟨0, 9, 12, 13⟩, ⟨0, 9, 16, 15⟩] ⟨0, 9, 20, 17⟩ [] rfl (by intro z hz; simp only [List.mem_cons, List.not_mem_nil, or_false] at hz; rcases hz with rfl | rfl; exact ⟨by decide, 1, eL_define_k13, by decide⟩; exact ⟨by decide, 2, eL_define_k15, by decide⟩) (by decide) (by decide) eL_define_k17 (Or.inl ⟨dL_define_20, rfl⟩) (by decide) (by decide) dL_define_22 dL_define_23 (Sum.inl.inj (zRt_of hm).1) (zRt_of hm).2
    have hm := zIf hm hk3
    cases hm
  obtain ⟨x1, s2, q_s2, hm⟩ := h_s2
  obtain ⟨s3, e_s3, hm⟩ := zLt_of hm
  refine z_dV (vd := true) (Cn := RX7) (k := 0) (o := 0) C 4 [.int v1, .int v2, .int v3, .int v4] [] sX (c_X7_define (zI_sub sX (zC_I C)) (zC_st C) q_s2) gL_define_X7_define (by decide +kernel) kX0 vc7 rfl rfl dL_define_6 rfl ⟨Nat.le_of_ble_eq_true rfl, Nat.le_of_ble_eq_true rfl⟩ rfl (Nat.le_of_ble_eq_true rfl) ?_
  rw [show zMix 0 zLX.length s s2 = s3 from e_s3.symm]
  refine z_goto (tgt := 24) C dL_define_9 (by decide) ?_
  refine z_iconst (v := (0 : Int32)) C dL_define_24 (by decide) ?_
  exact z_hret C hQ (Sum.inl.inj (zRt_of hm).1) (zRt_of hm).2 dL_define_25
set_option maxRecDepth 100000 in
set_option maxHeartbeats 4000000 in
theorem c_L_define {h : zH} {ad : Nat → Nat} (hI : zI ad zLL.length) (hst : h.1.stackTraces = false) {n : Nat} {v1 : Int32} {v2 : Int32} {v3 : Int32} {v4 : Int32} {r : Int32} {s s9 : zS} (hm : m_L_define n v1 v2 v3 v4 s = some (r, s9)) : zMH h ad zLL yL_define wsL_define 9 168 [.ref (ad 0), .int v1, .int v2, .int v3, .int v4] s r s9 :=
  z_startH (hh := [(0, 9, 12, 13), (0, 9, 16, 15), (0, 9, 20, 17)]) (cc := cL_define) (nL := 6) (ret := some .int) (own := RL) (by decide +kernel) rfl rfl hI hst (Nat.le_of_ble_eq_true rfl) (fun G C hQ => w_L_define C hQ hm)
set_option maxRecDepth 100000 in
theorem eL_answer_k13 : Cond.classLink RL 13 (zEx 1) ∈ wsL_answer := by decide +kernel
set_option maxRecDepth 100000 in
theorem eL_answer_k15 : Cond.classLink RL 15 (zEx 2) ∈ wsL_answer := by decide +kernel
set_option maxRecDepth 100000 in
set_option maxHeartbeats 4000000 in
theorem w_L_answer {h : zH} {ad : Nat → Nat} {G : zG} (C : zCT (tableOf [(0, 10, 13, 13), (0, 10, 17, 15)]) h ad zLL 5 G cL_answer RL wsL_answer 9 153) {n : Nat} {r : Int32} {s9 : zS} (hQ : zQh h ad zLL G r s9 (some .int)) {v1 : Int32} {v2 : Int32} {s : zS} (hm : m_L_answer n v1 v2 s = some (r, s9)) : zV h ad zLL 5 G s 0 [(0, .ref (ad 0)), (1, .int v1), (2, .int v2), (3, .ref (ad 46))] [] := by
  rw [m_L_answer] at hm
  refine z_aload_n C dL_answer_0 rfl 3 rfl ?_
  refine z_iconst (v := (0 : Int32)) C dL_answer_1 (by decide) ?_
  refine z_aload_n C dL_answer_2 rfl 0 rfl ?_
  refine z_iload_n C dL_answer_3 rfl 1 rfl ?_
  refine z_iload_n C dL_answer_4 rfl 2 rfl ?_
  rcases zHx_of hm with h_s2 | ⟨k, s2, q_s2, hm⟩
  rotate_left
  · by_cases hk1 : k = 1
    · subst hk1; have hm := zIt hm rfl
      exact z_hx (ex := 1) (vd := false) (Cn := RX7) (k := 0) (o := 0) C 2 [.int v1, .int v2] [.int (0 : Int32), .ref (ad 46)] sX (c_X7_answer (zI_sub sX (zC_I C)) (zC_st C) q_s2) hQ gL_answer_X7_answer (by decide +kernel) kX0 vc7 rfl rfl dL_answer_5 rfl ⟨Nat.le_of_ble_eq_true rfl, Nat.le_of_ble_eq_true rfl⟩ rfl (Nat.le_of_ble_eq_true rfl) [] ⟨0, 10, 13, 13⟩ [⟨0, 10, 17, 15⟩] rfl (fun z hz => absurd hz List.not_mem_nil) (by decide) (by decide) eL_answer_k13 (Or.inl ⟨dL_answer_13, rfl⟩) (by decide) (by decide) dL_answer_15 dL_answer_16 (Sum.inl.inj (zRt_of hm).1) (zRt_of hm).2
    have hm := zIf hm hk1
    by_cases hk2 : k = 2
    · subst hk2; have hm := zIt hm rfl
      exact z_hx (ex := 2) (vd := false) (Cn := RX7) (k := 0) (o := 0) C 2 [.int v1, .int v2] [.int (0 : Int32), .ref (ad 46)] sX (c_X7_answer (zI_sub sX (zC_I C)) (zC_st C) q_s2) hQ gL_answer_X7_answer (by decide +kernel) kX0 vc7 rfl rfl dL_answer_5 rfl ⟨Nat.le_of_ble_eq_true rfl, Nat.le_of_ble_eq_true rfl⟩ rfl (Nat.le_of_ble_eq_true rfl) [⟨0, 10, 13, 13⟩] ⟨0, 10, 17, 15⟩ [] rfl (by intro z hz; simp only [List.mem_cons, List.not_mem_nil, or_false] at hz; subst hz; exact ⟨by decide, 1, eL_answer_k13, by decide⟩) (by decide) (by decide) eL_answer_k15 (Or.inl ⟨dL_answer_17, rfl⟩) (by decide) (by decide) dL_answer_19 dL_answer_20 (Sum.inl.inj (zRt_of hm).1) (zRt_of hm).2
    have hm := zIf hm hk2
    cases hm
  obtain ⟨x1, s2, q_s2, hm⟩ := h_s2
  obtain ⟨s3, e_s3, hm⟩ := zLt_of hm
  refine z_dV (vd := false) (Cn := RX7) (k := 0) (o := 0) C 2 [.int v1, .int v2] [.int (0 : Int32), .ref (ad 46)] sX (c_X7_answer (zI_sub sX (zC_I C)) (zC_st C) q_s2) gL_answer_X7_answer (by decide +kernel) kX0 vc7 rfl rfl dL_answer_5 rfl ⟨Nat.le_of_ble_eq_true rfl, Nat.le_of_ble_eq_true rfl⟩ rfl (Nat.le_of_ble_eq_true rfl) ?_
  rw [show zMix 0 zLX.length s s2 = s3 from e_s3.symm]
  refine z_i2l C dL_answer_8 ?_
  obtain ⟨s4, i_s4, e_s4, hm⟩ := zWr_of hm
  refine z_last (x := x1) C rfl kL46 i_s4 e_s4 dL_answer_9 ?_
  refine z_goto (tgt := 21) C dL_answer_10 (by decide) ?_
  refine z_iconst (v := (0 : Int32)) C dL_answer_21 (by decide) ?_
  exact z_hret C hQ (Sum.inl.inj (zRt_of hm).1) (zRt_of hm).2 dL_answer_22
set_option maxRecDepth 100000 in
set_option maxHeartbeats 4000000 in
theorem c_L_answer {h : zH} {ad : Nat → Nat} (hI : zI ad zLL.length) (hst : h.1.stackTraces = false) {n : Nat} {v1 : Int32} {v2 : Int32} {r : Int32} {s s9 : zS} (hm : m_L_answer n v1 v2 s = some (r, s9)) : zMH h ad zLL yL_answer wsL_answer 9 153 [.ref (ad 0), .int v1, .int v2, .ref (ad 46)] s r s9 :=
  z_startH (hh := [(0, 10, 13, 13), (0, 10, 17, 15)]) (cc := cL_answer) (nL := 5) (ret := some .int) (own := RL) (by decide +kernel) rfl rfl hI hst (Nat.le_of_ble_eq_true rfl) (fun G C hQ => w_L_answer C hQ hm)
set_option maxRecDepth 100000 in
theorem eL_kindOf_k13 : Cond.classLink RL 13 (zEx 1) ∈ wsL_kindOf := by decide +kernel
set_option maxRecDepth 100000 in
set_option maxHeartbeats 4000000 in
theorem w_L_kindOf {h : zH} {ad : Nat → Nat} {G : zG} (C : zCT (tableOf [(0, 9, 12, 13)]) h ad zLL 4 G cL_kindOf RL wsL_kindOf 9 151) {n : Nat} {r : Int32} {s9 : zS} (hQ : zQh h ad zLL G r s9 (some .int)) {v1 : Int32} {s : zS} (hm : m_L_kindOf n v1 s = some (r, s9)) : zV h ad zLL 4 G s 0 [(0, .ref (ad 0)), (1, .int v1), (2, .ref (ad 46))] [] := by
  rw [m_L_kindOf] at hm
  refine z_aload_n C dL_kindOf_0 rfl 2 rfl ?_
  refine z_iconst (v := (0 : Int32)) C dL_kindOf_1 (by decide) ?_
  refine z_aload_n C dL_kindOf_2 rfl 0 rfl ?_
  refine z_iload_n C dL_kindOf_3 rfl 1 rfl ?_
  rcases zHx_of hm with h_s2 | ⟨k, s2, q_s2, hm⟩
  rotate_left
  · by_cases hk1 : k = 1
    · subst hk1; have hm := zIt hm rfl
      exact z_hx (ex := 1) (vd := false) (Cn := RX7) (k := 0) (o := 0) C 1 [.int v1] [.int (0 : Int32), .ref (ad 46)] sX (c_X7_kindOf (zI_sub sX (zC_I C)) (zC_st C) q_s2) hQ gL_kindOf_X7_kindOf (by decide +kernel) kX0 vc7 rfl rfl dL_kindOf_4 rfl ⟨Nat.le_of_ble_eq_true rfl, Nat.le_of_ble_eq_true rfl⟩ rfl (Nat.le_of_ble_eq_true rfl) [] ⟨0, 9, 12, 13⟩ [] rfl (fun z hz => absurd hz List.not_mem_nil) (by decide) (by decide) eL_kindOf_k13 (Or.inr ⟨3, rfl, dL_kindOf_12, rfl⟩) (by decide) (by decide) dL_kindOf_13 dL_kindOf_14 (Sum.inl.inj (zRt_of hm).1) (zRt_of hm).2
    have hm := zIf hm hk1
    cases hm
  obtain ⟨x1, s2, q_s2, hm⟩ := h_s2
  obtain ⟨s3, e_s3, hm⟩ := zLt_of hm
  refine z_dV (vd := false) (Cn := RX7) (k := 0) (o := 0) C 1 [.int v1] [.int (0 : Int32), .ref (ad 46)] sX (c_X7_kindOf (zI_sub sX (zC_I C)) (zC_st C) q_s2) gL_kindOf_X7_kindOf (by decide +kernel) kX0 vc7 rfl rfl dL_kindOf_4 rfl ⟨Nat.le_of_ble_eq_true rfl, Nat.le_of_ble_eq_true rfl⟩ rfl (Nat.le_of_ble_eq_true rfl) ?_
  rw [show zMix 0 zLX.length s s2 = s3 from e_s3.symm]
  refine z_i2l C dL_kindOf_7 ?_
  obtain ⟨s4, i_s4, e_s4, hm⟩ := zWr_of hm
  refine z_last (x := x1) C rfl kL46 i_s4 e_s4 dL_kindOf_8 ?_
  refine z_goto (tgt := 15) C dL_kindOf_9 (by decide) ?_
  refine z_iconst (v := (0 : Int32)) C dL_kindOf_15 (by decide) ?_
  exact z_hret C hQ (Sum.inl.inj (zRt_of hm).1) (zRt_of hm).2 dL_kindOf_16
set_option maxRecDepth 100000 in
set_option maxHeartbeats 4000000 in
theorem c_L_kindOf {h : zH} {ad : Nat → Nat} (hI : zI ad zLL.length) (hst : h.1.stackTraces = false) {n : Nat} {v1 : Int32} {r : Int32} {s s9 : zS} (hm : m_L_kindOf n v1 s = some (r, s9)) : zMH h ad zLL yL_kindOf wsL_kindOf 9 151 [.ref (ad 0), .int v1, .ref (ad 46)] s r s9 :=
  z_startH (hh := [(0, 9, 12, 13)]) (cc := cL_kindOf) (nL := 4) (ret := some .int) (own := RL) (by decide +kernel) rfl rfl hI hst (Nat.le_of_ble_eq_true rfl) (fun G C hQ => w_L_kindOf C hQ hm)
set_option maxRecDepth 100000 in
theorem eL_value_k13 : Cond.classLink RL 13 (zEx 1) ∈ wsL_value := by decide +kernel
set_option maxRecDepth 100000 in
set_option maxHeartbeats 4000000 in
theorem w_L_value {h : zH} {ad : Nat → Nat} {G : zG} (C : zCT (tableOf [(0, 9, 12, 13)]) h ad zLL 4 G cL_value RL wsL_value 9 184) {n : Nat} {r : Int32} {s9 : zS} (hQ : zQh h ad zLL G r s9 (some .int)) {v1 : Int32} {s : zS} (hm : m_L_value n v1 s = some (r, s9)) : zV h ad zLL 4 G s 0 [(0, .ref (ad 0)), (1, .int v1), (2, .ref (ad 46))] [] := by
  rw [m_L_value] at hm
  refine z_aload_n C dL_value_0 rfl 2 rfl ?_
  refine z_iconst (v := (0 : Int32)) C dL_value_1 (by decide) ?_
  refine z_aload_n C dL_value_2 rfl 0 rfl ?_
  refine z_iload_n C dL_value_3 rfl 1 rfl ?_
  rcases zHx_of hm with h_s2 | ⟨k, s2, q_s2, hm⟩
  rotate_left
  · by_cases hk1 : k = 1
    · subst hk1; have hm := zIt hm rfl
      exact z_hx (ex := 1) (vd := false) (Cn := RX7) (k := 0) (o := 0) C 1 [.int v1] [.int (0 : Int32), .ref (ad 46)] sX (c_X7_value (zI_sub sX (zC_I C)) (zC_st C) q_s2) hQ gL_value_X7_value (by decide +kernel) kX0 vc7 rfl rfl dL_value_4 rfl ⟨Nat.le_of_ble_eq_true rfl, Nat.le_of_ble_eq_true rfl⟩ rfl (Nat.le_of_ble_eq_true rfl) [] ⟨0, 9, 12, 13⟩ [] rfl (fun z hz => absurd hz List.not_mem_nil) (by decide) (by decide) eL_value_k13 (Or.inr ⟨3, rfl, dL_value_12, rfl⟩) (by decide) (by decide) dL_value_13 dL_value_14 (Sum.inl.inj (zRt_of hm).1) (zRt_of hm).2
    have hm := zIf hm hk1
    cases hm
  obtain ⟨x1, s2, q_s2, hm⟩ := h_s2
  obtain ⟨s3, e_s3, hm⟩ := zLt_of hm
  refine z_dV (vd := false) (Cn := RX7) (k := 0) (o := 0) C 1 [.int v1] [.int (0 : Int32), .ref (ad 46)] sX (c_X7_value (zI_sub sX (zC_I C)) (zC_st C) q_s2) gL_value_X7_value (by decide +kernel) kX0 vc7 rfl rfl dL_value_4 rfl ⟨Nat.le_of_ble_eq_true rfl, Nat.le_of_ble_eq_true rfl⟩ rfl (Nat.le_of_ble_eq_true rfl) ?_
  rw [show zMix 0 zLX.length s s2 = s3 from e_s3.symm]
  refine z_i2l C dL_value_7 ?_
  obtain ⟨s4, i_s4, e_s4, hm⟩ := zWr_of hm
  refine z_last (x := x1) C rfl kL46 i_s4 e_s4 dL_value_8 ?_
  refine z_goto (tgt := 15) C dL_value_9 (by decide) ?_
  refine z_iconst (v := (0 : Int32)) C dL_value_15 (by decide) ?_
  exact z_hret C hQ (Sum.inl.inj (zRt_of hm).1) (zRt_of hm).2 dL_value_16
set_option maxRecDepth 100000 in
set_option maxHeartbeats 4000000 in
theorem c_L_value {h : zH} {ad : Nat → Nat} (hI : zI ad zLL.length) (hst : h.1.stackTraces = false) {n : Nat} {v1 : Int32} {r : Int32} {s s9 : zS} (hm : m_L_value n v1 s = some (r, s9)) : zMH h ad zLL yL_value wsL_value 9 184 [.ref (ad 0), .int v1, .ref (ad 46)] s r s9 :=
  z_startH (hh := [(0, 9, 12, 13)]) (cc := cL_value) (nL := 4) (ret := some .int) (own := RL) (by decide +kernel) rfl rfl hI hst (Nat.le_of_ble_eq_true rfl) (fun G C hQ => w_L_value C hQ hm)
set_option maxRecDepth 100000 in
theorem eL_boundFor_k13 : Cond.classLink RL 13 (zEx 1) ∈ wsL_boundFor := by decide +kernel
set_option maxRecDepth 100000 in
theorem eL_boundFor_k15 : Cond.classLink RL 15 (zEx 2) ∈ wsL_boundFor := by decide +kernel
set_option maxRecDepth 100000 in
theorem eL_boundFor_k17 : Cond.classLink RL 17 (zEx 3) ∈ wsL_boundFor := by decide +kernel
set_option maxRecDepth 100000 in
set_option maxHeartbeats 4000000 in
theorem w_L_boundFor {h : zH} {ad : Nat → Nat} {G : zG} (C : zCT (tableOf [(0, 10, 13, 13), (0, 10, 17, 15), (0, 10, 21, 17)]) h ad zLL 5 G cL_boundFor RL wsL_boundFor 9 185) {n : Nat} {r : Int32} {s9 : zS} (hQ : zQh h ad zLL G r s9 (some .int)) {v1 : Int32} {v2 : Int32} {s : zS} (hm : m_L_boundFor n v1 v2 s = some (r, s9)) : zV h ad zLL 5 G s 0 [(0, .ref (ad 0)), (1, .int v1), (2, .int v2), (3, .ref (ad 46))] [] := by
  rw [m_L_boundFor] at hm
  refine z_aload_n C dL_boundFor_0 rfl 3 rfl ?_
  refine z_iconst (v := (0 : Int32)) C dL_boundFor_1 (by decide) ?_
  refine z_aload_n C dL_boundFor_2 rfl 0 rfl ?_
  refine z_iload_n C dL_boundFor_3 rfl 1 rfl ?_
  refine z_iload_n C dL_boundFor_4 rfl 2 rfl ?_
  rcases zHx_of hm with h_s2 | ⟨k, s2, q_s2, hm⟩
  rotate_left
  · by_cases hk1 : k = 1
    · subst hk1; have hm := zIt hm rfl
      exact z_hx (ex := 1) (vd := false) (Cn := RX7) (k := 0) (o := 0) C 2 [.int v1, .int v2] [.int (0 : Int32), .ref (ad 46)] sX (c_X7_boundFor (zI_sub sX (zC_I C)) (zC_st C) q_s2) hQ gL_boundFor_X7_boundFor (by decide +kernel) kX0 vc7 rfl rfl dL_boundFor_5 rfl ⟨Nat.le_of_ble_eq_true rfl, Nat.le_of_ble_eq_true rfl⟩ rfl (Nat.le_of_ble_eq_true rfl) [] ⟨0, 10, 13, 13⟩ [⟨0, 10, 17, 15⟩, ⟨0, 10, 21, 17⟩] rfl (fun z hz => absurd hz List.not_mem_nil) (by decide) (by decide) eL_boundFor_k13 (Or.inl ⟨dL_boundFor_13, rfl⟩) (by decide) (by decide) dL_boundFor_15 dL_boundFor_16 (Sum.inl.inj (zRt_of hm).1) (zRt_of hm).2
    have hm := zIf hm hk1
    by_cases hk2 : k = 2
    · subst hk2; have hm := zIt hm rfl
      exact z_hx (ex := 2) (vd := false) (Cn := RX7) (k := 0) (o := 0) C 2 [.int v1, .int v2] [.int (0 : Int32), .ref (ad 46)] sX (c_X7_boundFor (zI_sub sX (zC_I C)) (zC_st C) q_s2) hQ gL_boundFor_X7_boundFor (by decide +kernel) kX0 vc7 rfl rfl dL_boundFor_5 rfl ⟨Nat.le_of_ble_eq_true rfl, Nat.le_of_ble_eq_true rfl⟩ rfl (Nat.le_of_ble_eq_true rfl) [⟨0, 10, 13, 13⟩] ⟨0, 10, 17, 15⟩ [⟨0, 10, 21, 17⟩] rfl (by intro z hz; simp only [List.mem_cons, List.not_mem_nil, or_false] at hz; subst hz; exact ⟨by decide, 1, eL_boundFor_k13, by decide⟩) (by decide) (by decide) eL_boundFor_k15 (Or.inl ⟨dL_boundFor_17, rfl⟩) (by decide) (by decide) dL_boundFor_19 dL_boundFor_20 (Sum.inl.inj (zRt_of hm).1) (zRt_of hm).2
    have hm := zIf hm hk2
    by_cases hk3 : k = 3
    · subst hk3; have hm := zIt hm rfl
      exact z_hx (ex := 3) (vd := false) (Cn := RX7) (k := 0) (o := 0) C 2 [.int v1, .int v2] [.int (0 : Int32), .ref (ad 46)] sX (c_X7_boundFor (zI_sub sX (zC_I C)) (zC_st C) q_s2) hQ gL_boundFor_X7_boundFor (by decide +kernel) kX0 vc7 rfl rfl dL_boundFor_5 rfl ⟨Nat.le_of_ble_eq_true rfl, Nat.le_of_ble_eq_true rfl⟩ rfl (Nat.le_of_ble_eq_true rfl) [⟨0, 10, 13, 13⟩, ⟨0, 10, 17, 15⟩] ⟨0, 10, 21, 17⟩ [] rfl (by intro z hz; simp only [List.mem_cons, List.not_mem_nil, or_false] at hz; rcases hz with rfl | rfl; exact ⟨by decide, 1, eL_boundFor_k13, by decide⟩; exact ⟨by decide, 2, eL_boundFor_k15, by decide⟩) (by decide) (by decide) eL_boundFor_k17 (Or.inl ⟨dL_boundFor_21, rfl⟩) (by decide) (by decide) dL_boundFor_23 dL_boundFor_24 (Sum.inl.inj (zRt_of hm).1) (zRt_of hm).2
    have hm := zIf hm hk3
    cases hm
  obtain ⟨x1, s2, q_s2, hm⟩ := h_s2
  obtain ⟨s3, e_s3, hm⟩ := zLt_of hm
  refine z_dV (vd := false) (Cn := RX7) (k := 0) (o := 0) C 2 [.int v1, .int v2] [.int (0 : Int32), .ref (ad 46)] sX (c_X7_boundFor (zI_sub sX (zC_I C)) (zC_st C) q_s2) gL_boundFor_X7_boundFor (by decide +kernel) kX0 vc7 rfl rfl dL_boundFor_5 rfl ⟨Nat.le_of_ble_eq_true rfl, Nat.le_of_ble_eq_true rfl⟩ rfl (Nat.le_of_ble_eq_true rfl) ?_
  rw [show zMix 0 zLX.length s s2 = s3 from e_s3.symm]
  refine z_i2l C dL_boundFor_8 ?_
  obtain ⟨s4, i_s4, e_s4, hm⟩ := zWr_of hm
  refine z_last (x := x1) C rfl kL46 i_s4 e_s4 dL_boundFor_9 ?_
  refine z_goto (tgt := 25) C dL_boundFor_10 (by decide) ?_
  refine z_iconst (v := (0 : Int32)) C dL_boundFor_25 (by decide) ?_
  exact z_hret C hQ (Sum.inl.inj (zRt_of hm).1) (zRt_of hm).2 dL_boundFor_26
set_option maxRecDepth 100000 in
set_option maxHeartbeats 4000000 in
theorem c_L_boundFor {h : zH} {ad : Nat → Nat} (hI : zI ad zLL.length) (hst : h.1.stackTraces = false) {n : Nat} {v1 : Int32} {v2 : Int32} {r : Int32} {s s9 : zS} (hm : m_L_boundFor n v1 v2 s = some (r, s9)) : zMH h ad zLL yL_boundFor wsL_boundFor 9 185 [.ref (ad 0), .int v1, .int v2, .ref (ad 46)] s r s9 :=
  z_startH (hh := [(0, 10, 13, 13), (0, 10, 17, 15), (0, 10, 21, 17)]) (cc := cL_boundFor) (nL := 5) (ret := some .int) (own := RL) (by decide +kernel) rfl rfl hI hst (Nat.le_of_ble_eq_true rfl) (fun G C hQ => w_L_boundFor C hQ hm)
set_option maxRecDepth 100000 in
theorem eL_dependsOn_k13 : Cond.classLink RL 13 (zEx 1) ∈ wsL_dependsOn := by decide +kernel
set_option maxRecDepth 100000 in
set_option maxHeartbeats 4000000 in
theorem w_L_dependsOn {h : zH} {ad : Nat → Nat} {G : zG} (C : zCT (tableOf [(0, 17, 20, 13)]) h ad zLL 5 G cL_dependsOn RL wsL_dependsOn 9 152) {n : Nat} {r : Int32} {s9 : zS} (hQ : zQh h ad zLL G r s9 (some .int)) {v1 : Int32} {v2 : Int32} {s : zS} (hm : m_L_dependsOn n v1 v2 s = some (r, s9)) : zV h ad zLL 5 G s 0 [(0, .ref (ad 0)), (1, .int v1), (2, .int v2), (3, .ref (ad 46))] [] := by
  rw [m_L_dependsOn] at hm
  refine z_aload_n C dL_dependsOn_0 rfl 3 rfl ?_
  refine z_iconst (v := (0 : Int32)) C dL_dependsOn_1 (by decide) ?_
  refine z_aload_n C dL_dependsOn_2 rfl 0 rfl ?_
  refine z_iload_n C dL_dependsOn_3 rfl 1 rfl ?_
  refine z_iload_n C dL_dependsOn_4 rfl 2 rfl ?_
  rcases zHx_of hm with h_s2 | ⟨k, s2, q_s2, hm⟩
  rotate_left
  · by_cases hk1 : k = 1
    · subst hk1; have hm := zIt hm rfl
      exact z_hx (ex := 1) (vd := false) (Cn := RX7) (k := 0) (o := 0) C 2 [.int v1, .int v2] [.int (0 : Int32), .ref (ad 46)] sX (c_X7_dependsOn (zI_sub sX (zC_I C)) (zC_st C) q_s2) hQ gL_dependsOn_X7_dependsOn (by decide +kernel) kX0 vc7 rfl rfl dL_dependsOn_5 rfl ⟨Nat.le_of_ble_eq_true rfl, Nat.le_of_ble_eq_true rfl⟩ rfl (Nat.le_of_ble_eq_true rfl) [] ⟨0, 17, 20, 13⟩ [] rfl (fun z hz => absurd hz List.not_mem_nil) (by decide) (by decide) eL_dependsOn_k13 (Or.inl ⟨dL_dependsOn_20, rfl⟩) (by decide) (by decide) dL_dependsOn_22 dL_dependsOn_23 (Sum.inl.inj (zRt_of hm).1) (zRt_of hm).2
    have hm := zIf hm hk1
    cases hm
  obtain ⟨x1, s2, q_s2, hm⟩ := h_s2
  obtain ⟨s3, e_s3, hm⟩ := zLt_of hm
  refine z_dV (vd := false) (Cn := RX7) (k := 0) (o := 0) C 2 [.int v1, .int v2] [.int (0 : Int32), .ref (ad 46)] sX (c_X7_dependsOn (zI_sub sX (zC_I C)) (zC_st C) q_s2) gL_dependsOn_X7_dependsOn (by decide +kernel) kX0 vc7 rfl rfl dL_dependsOn_5 rfl ⟨Nat.le_of_ble_eq_true rfl, Nat.le_of_ble_eq_true rfl⟩ rfl (Nat.le_of_ble_eq_true rfl) ?_
  rw [show zMix 0 zLX.length s s2 = s3 from e_s3.symm]
  refine z_if_eq (tgt := 15) C dL_dependsOn_8 (by decide) (fun c4 => ?_) (fun c4 => ?_)
  · have hm := zIt hm c4
    refine z_lconst (v := (0 : Int64)) C dL_dependsOn_15 (by decide) ?_
    obtain ⟨s5, i_s5, e_s5, hm⟩ := zWr_of hm
    refine z_last (x := (0 : Int32)) C (by decide) kL46 i_s5 e_s5 dL_dependsOn_16 ?_
    refine z_goto (tgt := 24) C dL_dependsOn_17 (by decide) ?_
    refine z_iconst (v := (0 : Int32)) C dL_dependsOn_24 (by decide) ?_
    exact z_hret C hQ (Sum.inl.inj (zRt_of hm).1) (zRt_of hm).2 dL_dependsOn_25
  · have hm := zIf hm c4
    refine z_lconst (v := (1 : Int64)) C dL_dependsOn_11 (by decide) ?_
    refine z_goto (tgt := 16) C dL_dependsOn_12 (by decide) ?_
    obtain ⟨s6, i_s6, e_s6, hm⟩ := zWr_of hm
    refine z_last (x := (1 : Int32)) C (by decide) kL46 i_s6 e_s6 dL_dependsOn_16 ?_
    refine z_goto (tgt := 24) C dL_dependsOn_17 (by decide) ?_
    refine z_iconst (v := (0 : Int32)) C dL_dependsOn_24 (by decide) ?_
    exact z_hret C hQ (Sum.inl.inj (zRt_of hm).1) (zRt_of hm).2 dL_dependsOn_25
set_option maxRecDepth 100000 in
set_option maxHeartbeats 4000000 in
theorem c_L_dependsOn {h : zH} {ad : Nat → Nat} (hI : zI ad zLL.length) (hst : h.1.stackTraces = false) {n : Nat} {v1 : Int32} {v2 : Int32} {r : Int32} {s s9 : zS} (hm : m_L_dependsOn n v1 v2 s = some (r, s9)) : zMH h ad zLL yL_dependsOn wsL_dependsOn 9 152 [.ref (ad 0), .int v1, .int v2, .ref (ad 46)] s r s9 :=
  z_startH (hh := [(0, 17, 20, 13)]) (cc := cL_dependsOn) (nL := 5) (ret := some .int) (own := RL) (by decide +kernel) rfl rfl hI hst (Nat.le_of_ble_eq_true rfl) (fun G C hQ => w_L_dependsOn C hQ hm)
set_option maxRecDepth 100000 in
theorem eL_influence_k13 : Cond.classLink RL 13 (zEx 1) ∈ wsL_influence := by decide +kernel
set_option maxRecDepth 100000 in
set_option maxHeartbeats 4000000 in
theorem w_L_influence {h : zH} {ad : Nat → Nat} {G : zG} (C : zCT (tableOf [(0, 9, 12, 13)]) h ad zLL 4 G cL_influence RL wsL_influence 9 186) {n : Nat} {r : Int32} {s9 : zS} (hQ : zQh h ad zLL G r s9 (some .int)) {v1 : Int32} {s : zS} (hm : m_L_influence n v1 s = some (r, s9)) : zV h ad zLL 4 G s 0 [(0, .ref (ad 0)), (1, .int v1), (2, .ref (ad 46))] [] := by
  rw [m_L_influence] at hm
  refine z_aload_n C dL_influence_0 rfl 2 rfl ?_
  refine z_iconst (v := (0 : Int32)) C dL_influence_1 (by decide) ?_
  refine z_aload_n C dL_influence_2 rfl 0 rfl ?_
  refine z_iload_n C dL_influence_3 rfl 1 rfl ?_
  rcases zHx_of hm with h_s2 | ⟨k, s2, q_s2, hm⟩
  rotate_left
  · by_cases hk1 : k = 1
    · subst hk1; have hm := zIt hm rfl
      exact z_hx (ex := 1) (vd := false) (Cn := RX7) (k := 0) (o := 0) C 1 [.int v1] [.int (0 : Int32), .ref (ad 46)] sX (c_X7_influence (zI_sub sX (zC_I C)) (zC_st C) q_s2) hQ gL_influence_X7_influence (by decide +kernel) kX0 vc7 rfl rfl dL_influence_4 rfl ⟨Nat.le_of_ble_eq_true rfl, Nat.le_of_ble_eq_true rfl⟩ rfl (Nat.le_of_ble_eq_true rfl) [] ⟨0, 9, 12, 13⟩ [] rfl (fun z hz => absurd hz List.not_mem_nil) (by decide) (by decide) eL_influence_k13 (Or.inr ⟨3, rfl, dL_influence_12, rfl⟩) (by decide) (by decide) dL_influence_13 dL_influence_14 (Sum.inl.inj (zRt_of hm).1) (zRt_of hm).2
    have hm := zIf hm hk1
    cases hm
  obtain ⟨x1, s2, q_s2, hm⟩ := h_s2
  obtain ⟨s3, e_s3, hm⟩ := zLt_of hm
  refine z_dV (vd := false) (Cn := RX7) (k := 0) (o := 0) C 1 [.int v1] [.int (0 : Int32), .ref (ad 46)] sX (c_X7_influence (zI_sub sX (zC_I C)) (zC_st C) q_s2) gL_influence_X7_influence (by decide +kernel) kX0 vc7 rfl rfl dL_influence_4 rfl ⟨Nat.le_of_ble_eq_true rfl, Nat.le_of_ble_eq_true rfl⟩ rfl (Nat.le_of_ble_eq_true rfl) ?_
  rw [show zMix 0 zLX.length s s2 = s3 from e_s3.symm]
  refine z_i2l C dL_influence_7 ?_
  obtain ⟨s4, i_s4, e_s4, hm⟩ := zWr_of hm
  refine z_last (x := x1) C rfl kL46 i_s4 e_s4 dL_influence_8 ?_
  refine z_goto (tgt := 15) C dL_influence_9 (by decide) ?_
  refine z_iconst (v := (0 : Int32)) C dL_influence_15 (by decide) ?_
  exact z_hret C hQ (Sum.inl.inj (zRt_of hm).1) (zRt_of hm).2 dL_influence_16
set_option maxRecDepth 100000 in
set_option maxHeartbeats 4000000 in
theorem c_L_influence {h : zH} {ad : Nat → Nat} (hI : zI ad zLL.length) (hst : h.1.stackTraces = false) {n : Nat} {v1 : Int32} {r : Int32} {s s9 : zS} (hm : m_L_influence n v1 s = some (r, s9)) : zMH h ad zLL yL_influence wsL_influence 9 186 [.ref (ad 0), .int v1, .ref (ad 46)] s r s9 :=
  z_startH (hh := [(0, 9, 12, 13)]) (cc := cL_influence) (nL := 4) (ret := some .int) (own := RL) (by decide +kernel) rfl rfl hI hst (Nat.le_of_ble_eq_true rfl) (fun G C hQ => w_L_influence C hQ hm)
set_option maxRecDepth 100000 in
theorem eL_why_k13 : Cond.classLink RL 13 (zEx 1) ∈ wsL_why := by decide +kernel
set_option maxRecDepth 100000 in
set_option maxHeartbeats 4000000 in
theorem w_L_why {h : zH} {ad : Nat → Nat} {G : zG} (C : zCT (tableOf [(0, 10, 13, 13)]) h ad zLL 5 G cL_why RL wsL_why 9 185) {n : Nat} {r : Int32} {s9 : zS} (hQ : zQh h ad zLL G r s9 (some .int)) {v1 : Int32} {v2 : Int32} {s : zS} (hm : m_L_why n v1 v2 s = some (r, s9)) : zV h ad zLL 5 G s 0 [(0, .ref (ad 0)), (1, .int v1), (2, .int v2), (3, .ref (ad 46))] [] := by
  rw [m_L_why] at hm
  refine z_aload_n C dL_why_0 rfl 3 rfl ?_
  refine z_iconst (v := (0 : Int32)) C dL_why_1 (by decide) ?_
  refine z_aload_n C dL_why_2 rfl 0 rfl ?_
  refine z_iload_n C dL_why_3 rfl 1 rfl ?_
  refine z_iload_n C dL_why_4 rfl 2 rfl ?_
  rcases zHx_of hm with h_s2 | ⟨k, s2, q_s2, hm⟩
  rotate_left
  · by_cases hk1 : k = 1
    · subst hk1; have hm := zIt hm rfl
      exact z_hx (ex := 1) (vd := false) (Cn := RX7) (k := 0) (o := 0) C 2 [.int v1, .int v2] [.int (0 : Int32), .ref (ad 46)] sX (c_X7_why (zI_sub sX (zC_I C)) (zC_st C) q_s2) hQ gL_why_X7_why (by decide +kernel) kX0 vc7 rfl rfl dL_why_5 rfl ⟨Nat.le_of_ble_eq_true rfl, Nat.le_of_ble_eq_true rfl⟩ rfl (Nat.le_of_ble_eq_true rfl) [] ⟨0, 10, 13, 13⟩ [] rfl (fun z hz => absurd hz List.not_mem_nil) (by decide) (by decide) eL_why_k13 (Or.inl ⟨dL_why_13, rfl⟩) (by decide) (by decide) dL_why_15 dL_why_16 (Sum.inl.inj (zRt_of hm).1) (zRt_of hm).2
    have hm := zIf hm hk1
    cases hm
  obtain ⟨x1, s2, q_s2, hm⟩ := h_s2
  obtain ⟨s3, e_s3, hm⟩ := zLt_of hm
  refine z_dV (vd := false) (Cn := RX7) (k := 0) (o := 0) C 2 [.int v1, .int v2] [.int (0 : Int32), .ref (ad 46)] sX (c_X7_why (zI_sub sX (zC_I C)) (zC_st C) q_s2) gL_why_X7_why (by decide +kernel) kX0 vc7 rfl rfl dL_why_5 rfl ⟨Nat.le_of_ble_eq_true rfl, Nat.le_of_ble_eq_true rfl⟩ rfl (Nat.le_of_ble_eq_true rfl) ?_
  rw [show zMix 0 zLX.length s s2 = s3 from e_s3.symm]
  refine z_i2l C dL_why_8 ?_
  obtain ⟨s4, i_s4, e_s4, hm⟩ := zWr_of hm
  refine z_last (x := x1) C rfl kL46 i_s4 e_s4 dL_why_9 ?_
  refine z_goto (tgt := 17) C dL_why_10 (by decide) ?_
  refine z_iconst (v := (0 : Int32)) C dL_why_17 (by decide) ?_
  exact z_hret C hQ (Sum.inl.inj (zRt_of hm).1) (zRt_of hm).2 dL_why_18
set_option maxRecDepth 100000 in
set_option maxHeartbeats 4000000 in
theorem c_L_why {h : zH} {ad : Nat → Nat} (hI : zI ad zLL.length) (hst : h.1.stackTraces = false) {n : Nat} {v1 : Int32} {v2 : Int32} {r : Int32} {s s9 : zS} (hm : m_L_why n v1 v2 s = some (r, s9)) : zMH h ad zLL yL_why wsL_why 9 185 [.ref (ad 0), .int v1, .int v2, .ref (ad 46)] s r s9 :=
  z_startH (hh := [(0, 10, 13, 13)]) (cc := cL_why) (nL := 5) (ret := some .int) (own := RL) (by decide +kernel) rfl rfl hI hst (Nat.le_of_ble_eq_true rfl) (fun G C hQ => w_L_why C hQ hm)
set_option maxRecDepth 100000 in
theorem eL_bracket_k15 : Cond.classLink RL 15 (zEx 2) ∈ wsL_bracket := by decide +kernel
set_option maxRecDepth 100000 in
theorem eL_bracket_k17 : Cond.classLink RL 17 (zEx 3) ∈ wsL_bracket := by decide +kernel
set_option maxRecDepth 100000 in
set_option maxHeartbeats 4000000 in
theorem w_L_bracket {h : zH} {ad : Nat → Nat} {G : zG} (C : zCT (tableOf [(0, 10, 13, 15), (0, 10, 17, 17)]) h ad zLL 5 G cL_bracket RL wsL_bracket 8 132) {n : Nat} {r : Int32} {s9 : zS} (hQ : zQh h ad zLL G r s9 (some .int)) {v1 : Int32} {v2 : Int32} {s : zS} (hm : m_L_bracket n v1 v2 s = some (r, s9)) : zV h ad zLL 5 G s 0 [(0, .ref (ad 0)), (1, .int v1), (2, .int v2), (3, .ref (ad 46))] [] := by
  rw [m_L_bracket] at hm
  refine z_aload_n C dL_bracket_0 rfl 3 rfl ?_
  refine z_iconst (v := (0 : Int32)) C dL_bracket_1 (by decide) ?_
  refine z_aload_n C dL_bracket_2 rfl 0 rfl ?_
  refine z_iload_n C dL_bracket_3 rfl 1 rfl ?_
  refine z_iload_n C dL_bracket_4 rfl 2 rfl ?_
  rcases zHx_of hm with h_s2 | ⟨k, s2, q_s2, hm⟩
  rotate_left
  · by_cases hk2 : k = 2
    · subst hk2; have hm := zIt hm rfl
      exact z_hx (ex := 2) (vd := false) (Cn := RX7) (k := 0) (o := 0) C 2 [.int v1, .int v2] [.int (0 : Int32), .ref (ad 46)] sX (c_X7_bracket (zI_sub sX (zC_I C)) (zC_st C) q_s2) hQ gL_bracket_X7_bracket (by decide +kernel) kX0 vc7 rfl rfl dL_bracket_5 rfl ⟨Nat.le_of_ble_eq_true rfl, Nat.le_of_ble_eq_true rfl⟩ rfl (Nat.le_of_ble_eq_true rfl) [] ⟨0, 10, 13, 15⟩ [⟨0, 10, 17, 17⟩] rfl (fun z hz => absurd hz List.not_mem_nil) (by decide) (by decide) eL_bracket_k15 (Or.inl ⟨dL_bracket_13, rfl⟩) (by decide) (by decide) dL_bracket_15 dL_bracket_16 (Sum.inl.inj (zRt_of hm).1) (zRt_of hm).2
    have hm := zIf hm hk2
    by_cases hk3 : k = 3
    · subst hk3; have hm := zIt hm rfl
      exact z_hx (ex := 3) (vd := false) (Cn := RX7) (k := 0) (o := 0) C 2 [.int v1, .int v2] [.int (0 : Int32), .ref (ad 46)] sX (c_X7_bracket (zI_sub sX (zC_I C)) (zC_st C) q_s2) hQ gL_bracket_X7_bracket (by decide +kernel) kX0 vc7 rfl rfl dL_bracket_5 rfl ⟨Nat.le_of_ble_eq_true rfl, Nat.le_of_ble_eq_true rfl⟩ rfl (Nat.le_of_ble_eq_true rfl) [⟨0, 10, 13, 15⟩] ⟨0, 10, 17, 17⟩ [] rfl (by intro z hz; simp only [List.mem_cons, List.not_mem_nil, or_false] at hz; subst hz; exact ⟨by decide, 2, eL_bracket_k15, by decide⟩) (by decide) (by decide) eL_bracket_k17 (Or.inl ⟨dL_bracket_17, rfl⟩) (by decide) (by decide) dL_bracket_19 dL_bracket_20 (Sum.inl.inj (zRt_of hm).1) (zRt_of hm).2
    have hm := zIf hm hk3
    cases hm
  obtain ⟨x1, s2, q_s2, hm⟩ := h_s2
  obtain ⟨s3, e_s3, hm⟩ := zLt_of hm
  refine z_dV (vd := false) (Cn := RX7) (k := 0) (o := 0) C 2 [.int v1, .int v2] [.int (0 : Int32), .ref (ad 46)] sX (c_X7_bracket (zI_sub sX (zC_I C)) (zC_st C) q_s2) gL_bracket_X7_bracket (by decide +kernel) kX0 vc7 rfl rfl dL_bracket_5 rfl ⟨Nat.le_of_ble_eq_true rfl, Nat.le_of_ble_eq_true rfl⟩ rfl (Nat.le_of_ble_eq_true rfl) ?_
  rw [show zMix 0 zLX.length s s2 = s3 from e_s3.symm]
  refine z_i2l C dL_bracket_8 ?_
  obtain ⟨s4, i_s4, e_s4, hm⟩ := zWr_of hm
  refine z_last (x := x1) C rfl kL46 i_s4 e_s4 dL_bracket_9 ?_
  refine z_goto (tgt := 21) C dL_bracket_10 (by decide) ?_
  refine z_iconst (v := (0 : Int32)) C dL_bracket_21 (by decide) ?_
  exact z_hret C hQ (Sum.inl.inj (zRt_of hm).1) (zRt_of hm).2 dL_bracket_22
set_option maxRecDepth 100000 in
set_option maxHeartbeats 4000000 in
theorem c_L_bracket {h : zH} {ad : Nat → Nat} (hI : zI ad zLL.length) (hst : h.1.stackTraces = false) {n : Nat} {v1 : Int32} {v2 : Int32} {r : Int32} {s s9 : zS} (hm : m_L_bracket n v1 v2 s = some (r, s9)) : zMH h ad zLL yL_bracket wsL_bracket 8 132 [.ref (ad 0), .int v1, .int v2, .ref (ad 46)] s r s9 :=
  z_startH (hh := [(0, 10, 13, 15), (0, 10, 17, 17)]) (cc := cL_bracket) (nL := 5) (ret := some .int) (own := RL) (by decide +kernel) rfl rfl hI hst (Nat.le_of_ble_eq_true rfl) (fun G C hQ => w_L_bracket C hQ hm)
set_option maxRecDepth 100000 in
theorem eL_taxOn_k15 : Cond.classLink RL 15 (zEx 2) ∈ wsL_taxOn := by decide +kernel
set_option maxRecDepth 100000 in
set_option maxHeartbeats 4000000 in
theorem w_L_taxOn {h : zH} {ad : Nat → Nat} {G : zG} (C : zCT (tableOf [(0, 9, 12, 15)]) h ad zLL 4 G cL_taxOn RL wsL_taxOn 8 131) {n : Nat} {r : Int32} {s9 : zS} (hQ : zQh h ad zLL G r s9 (some .int)) {v1 : Int32} {s : zS} (hm : m_L_taxOn n v1 s = some (r, s9)) : zV h ad zLL 4 G s 0 [(0, .ref (ad 0)), (1, .int v1), (2, .ref (ad 46))] [] := by
  rw [m_L_taxOn] at hm
  refine z_aload_n C dL_taxOn_0 rfl 2 rfl ?_
  refine z_iconst (v := (0 : Int32)) C dL_taxOn_1 (by decide) ?_
  refine z_aload_n C dL_taxOn_2 rfl 0 rfl ?_
  refine z_iload_n C dL_taxOn_3 rfl 1 rfl ?_
  rcases zHx_of hm with h_s2 | ⟨k, s2, q_s2, hm⟩
  rotate_left
  · by_cases hk2 : k = 2
    · subst hk2; have hm := zIt hm rfl
      exact z_hx (ex := 2) (vd := false) (Cn := RX7) (k := 0) (o := 0) C 1 [.int v1] [.int (0 : Int32), .ref (ad 46)] sX (c_X7_taxOn (zI_sub sX (zC_I C)) (zC_st C) q_s2) hQ gL_taxOn_X7_taxOn (by decide +kernel) kX0 vc7 rfl rfl dL_taxOn_4 rfl ⟨Nat.le_of_ble_eq_true rfl, Nat.le_of_ble_eq_true rfl⟩ rfl (Nat.le_of_ble_eq_true rfl) [] ⟨0, 9, 12, 15⟩ [] rfl (fun z hz => absurd hz List.not_mem_nil) (by decide) (by decide) eL_taxOn_k15 (Or.inr ⟨3, rfl, dL_taxOn_12, rfl⟩) (by decide) (by decide) dL_taxOn_13 dL_taxOn_14 (Sum.inl.inj (zRt_of hm).1) (zRt_of hm).2
    have hm := zIf hm hk2
    cases hm
  obtain ⟨x1, s2, q_s2, hm⟩ := h_s2
  obtain ⟨s3, e_s3, hm⟩ := zLt_of hm
  refine z_dV (vd := false) (Cn := RX7) (k := 0) (o := 0) C 1 [.int v1] [.int (0 : Int32), .ref (ad 46)] sX (c_X7_taxOn (zI_sub sX (zC_I C)) (zC_st C) q_s2) gL_taxOn_X7_taxOn (by decide +kernel) kX0 vc7 rfl rfl dL_taxOn_4 rfl ⟨Nat.le_of_ble_eq_true rfl, Nat.le_of_ble_eq_true rfl⟩ rfl (Nat.le_of_ble_eq_true rfl) ?_
  rw [show zMix 0 zLX.length s s2 = s3 from e_s3.symm]
  refine z_i2l C dL_taxOn_7 ?_
  obtain ⟨s4, i_s4, e_s4, hm⟩ := zWr_of hm
  refine z_last (x := x1) C rfl kL46 i_s4 e_s4 dL_taxOn_8 ?_
  refine z_goto (tgt := 15) C dL_taxOn_9 (by decide) ?_
  refine z_iconst (v := (0 : Int32)) C dL_taxOn_15 (by decide) ?_
  exact z_hret C hQ (Sum.inl.inj (zRt_of hm).1) (zRt_of hm).2 dL_taxOn_16
set_option maxRecDepth 100000 in
set_option maxHeartbeats 4000000 in
theorem c_L_taxOn {h : zH} {ad : Nat → Nat} (hI : zI ad zLL.length) (hst : h.1.stackTraces = false) {n : Nat} {v1 : Int32} {r : Int32} {s s9 : zS} (hm : m_L_taxOn n v1 s = some (r, s9)) : zMH h ad zLL yL_taxOn wsL_taxOn 8 131 [.ref (ad 0), .int v1, .ref (ad 46)] s r s9 :=
  z_startH (hh := [(0, 9, 12, 15)]) (cc := cL_taxOn) (nL := 4) (ret := some .int) (own := RL) (by decide +kernel) rfl rfl hI hst (Nat.le_of_ble_eq_true rfl) (fun G C hQ => w_L_taxOn C hQ hm)
set_option maxRecDepth 100000 in
theorem eL_carry_k15 : Cond.classLink RL 15 (zEx 2) ∈ wsL_carry := by decide +kernel
set_option maxRecDepth 100000 in
theorem eL_carry_k17 : Cond.classLink RL 17 (zEx 3) ∈ wsL_carry := by decide +kernel
set_option maxRecDepth 100000 in
set_option maxHeartbeats 4000000 in
theorem w_L_carry {h : zH} {ad : Nat → Nat} {G : zG} (C : zCT (tableOf [(0, 10, 13, 15), (0, 10, 17, 17)]) h ad zLL 5 G cL_carry RL wsL_carry 8 133) {n : Nat} {r : Int32} {s9 : zS} (hQ : zQh h ad zLL G r s9 (some .int)) {v1 : Int32} {v2 : Int32} {s : zS} (hm : m_L_carry n v1 v2 s = some (r, s9)) : zV h ad zLL 5 G s 0 [(0, .ref (ad 0)), (1, .int v1), (2, .int v2), (3, .ref (ad 46))] [] := by
  rw [m_L_carry] at hm
  refine z_aload_n C dL_carry_0 rfl 3 rfl ?_
  refine z_iconst (v := (0 : Int32)) C dL_carry_1 (by decide) ?_
  refine z_aload_n C dL_carry_2 rfl 0 rfl ?_
  refine z_iload_n C dL_carry_3 rfl 1 rfl ?_
  refine z_iload_n C dL_carry_4 rfl 2 rfl ?_
  rcases zHx_of hm with h_s2 | ⟨k, s2, q_s2, hm⟩
  rotate_left
  · by_cases hk2 : k = 2
    · subst hk2; have hm := zIt hm rfl
      exact z_hx (ex := 2) (vd := false) (Cn := RX7) (k := 0) (o := 0) C 2 [.int v1, .int v2] [.int (0 : Int32), .ref (ad 46)] sX (c_X7_carry (zI_sub sX (zC_I C)) (zC_st C) q_s2) hQ gL_carry_X7_carry (by decide +kernel) kX0 vc7 rfl rfl dL_carry_5 rfl ⟨Nat.le_of_ble_eq_true rfl, Nat.le_of_ble_eq_true rfl⟩ rfl (Nat.le_of_ble_eq_true rfl) [] ⟨0, 10, 13, 15⟩ [⟨0, 10, 17, 17⟩] rfl (fun z hz => absurd hz List.not_mem_nil) (by decide) (by decide) eL_carry_k15 (Or.inl ⟨dL_carry_13, rfl⟩) (by decide) (by decide) dL_carry_15 dL_carry_16 (Sum.inl.inj (zRt_of hm).1) (zRt_of hm).2
    have hm := zIf hm hk2
    by_cases hk3 : k = 3
    · subst hk3; have hm := zIt hm rfl
      exact z_hx (ex := 3) (vd := false) (Cn := RX7) (k := 0) (o := 0) C 2 [.int v1, .int v2] [.int (0 : Int32), .ref (ad 46)] sX (c_X7_carry (zI_sub sX (zC_I C)) (zC_st C) q_s2) hQ gL_carry_X7_carry (by decide +kernel) kX0 vc7 rfl rfl dL_carry_5 rfl ⟨Nat.le_of_ble_eq_true rfl, Nat.le_of_ble_eq_true rfl⟩ rfl (Nat.le_of_ble_eq_true rfl) [⟨0, 10, 13, 15⟩] ⟨0, 10, 17, 17⟩ [] rfl (by intro z hz; simp only [List.mem_cons, List.not_mem_nil, or_false] at hz; subst hz; exact ⟨by decide, 2, eL_carry_k15, by decide⟩) (by decide) (by decide) eL_carry_k17 (Or.inl ⟨dL_carry_17, rfl⟩) (by decide) (by decide) dL_carry_19 dL_carry_20 (Sum.inl.inj (zRt_of hm).1) (zRt_of hm).2
    have hm := zIf hm hk3
    cases hm
  obtain ⟨x1, s2, q_s2, hm⟩ := h_s2
  obtain ⟨s3, e_s3, hm⟩ := zLt_of hm
  refine z_dV (vd := false) (Cn := RX7) (k := 0) (o := 0) C 2 [.int v1, .int v2] [.int (0 : Int32), .ref (ad 46)] sX (c_X7_carry (zI_sub sX (zC_I C)) (zC_st C) q_s2) gL_carry_X7_carry (by decide +kernel) kX0 vc7 rfl rfl dL_carry_5 rfl ⟨Nat.le_of_ble_eq_true rfl, Nat.le_of_ble_eq_true rfl⟩ rfl (Nat.le_of_ble_eq_true rfl) ?_
  rw [show zMix 0 zLX.length s s2 = s3 from e_s3.symm]
  refine z_i2l C dL_carry_8 ?_
  obtain ⟨s4, i_s4, e_s4, hm⟩ := zWr_of hm
  refine z_last (x := x1) C rfl kL46 i_s4 e_s4 dL_carry_9 ?_
  refine z_goto (tgt := 21) C dL_carry_10 (by decide) ?_
  refine z_iconst (v := (0 : Int32)) C dL_carry_21 (by decide) ?_
  exact z_hret C hQ (Sum.inl.inj (zRt_of hm).1) (zRt_of hm).2 dL_carry_22
set_option maxRecDepth 100000 in
set_option maxHeartbeats 4000000 in
theorem c_L_carry {h : zH} {ad : Nat → Nat} (hI : zI ad zLL.length) (hst : h.1.stackTraces = false) {n : Nat} {v1 : Int32} {v2 : Int32} {r : Int32} {s s9 : zS} (hm : m_L_carry n v1 v2 s = some (r, s9)) : zMH h ad zLL yL_carry wsL_carry 8 133 [.ref (ad 0), .int v1, .int v2, .ref (ad 46)] s r s9 :=
  z_startH (hh := [(0, 10, 13, 15), (0, 10, 17, 17)]) (cc := cL_carry) (nL := 5) (ret := some .int) (own := RL) (by decide +kernel) rfl rfl hI hst (Nat.le_of_ble_eq_true rfl) (fun G C hQ => w_L_carry C hQ hm)
set_option maxRecDepth 100000 in
theorem eL_carriedAt_k13 : Cond.classLink RL 13 (zEx 1) ∈ wsL_carriedAt := by decide +kernel
set_option maxRecDepth 100000 in
set_option maxHeartbeats 4000000 in
theorem w_L_carriedAt {h : zH} {ad : Nat → Nat} {G : zG} (C : zCT (tableOf [(0, 9, 12, 13)]) h ad zLL 4 G cL_carriedAt RL wsL_carriedAt 8 131) {n : Nat} {r : Int32} {s9 : zS} (hQ : zQh h ad zLL G r s9 (some .int)) {v1 : Int32} {s : zS} (hm : m_L_carriedAt n v1 s = some (r, s9)) : zV h ad zLL 4 G s 0 [(0, .ref (ad 0)), (1, .int v1), (2, .ref (ad 46))] [] := by
  rw [m_L_carriedAt] at hm
  refine z_aload_n C dL_carriedAt_0 rfl 2 rfl ?_
  refine z_iconst (v := (0 : Int32)) C dL_carriedAt_1 (by decide) ?_
  refine z_aload_n C dL_carriedAt_2 rfl 0 rfl ?_
  refine z_iload_n C dL_carriedAt_3 rfl 1 rfl ?_
  rcases zHx_of hm with h_s2 | ⟨k, s2, q_s2, hm⟩
  rotate_left
  · by_cases hk1 : k = 1
    · subst hk1; have hm := zIt hm rfl
      exact z_hx (ex := 1) (vd := false) (Cn := RX7) (k := 0) (o := 0) C 1 [.int v1] [.int (0 : Int32), .ref (ad 46)] sX (c_X7_carriedAt (zI_sub sX (zC_I C)) (zC_st C) q_s2) hQ gL_carriedAt_X7_carriedAt (by decide +kernel) kX0 vc7 rfl rfl dL_carriedAt_4 rfl ⟨Nat.le_of_ble_eq_true rfl, Nat.le_of_ble_eq_true rfl⟩ rfl (Nat.le_of_ble_eq_true rfl) [] ⟨0, 9, 12, 13⟩ [] rfl (fun z hz => absurd hz List.not_mem_nil) (by decide) (by decide) eL_carriedAt_k13 (Or.inr ⟨3, rfl, dL_carriedAt_12, rfl⟩) (by decide) (by decide) dL_carriedAt_13 dL_carriedAt_14 (Sum.inl.inj (zRt_of hm).1) (zRt_of hm).2
    have hm := zIf hm hk1
    cases hm
  obtain ⟨x1, s2, q_s2, hm⟩ := h_s2
  obtain ⟨s3, e_s3, hm⟩ := zLt_of hm
  refine z_dV (vd := false) (Cn := RX7) (k := 0) (o := 0) C 1 [.int v1] [.int (0 : Int32), .ref (ad 46)] sX (c_X7_carriedAt (zI_sub sX (zC_I C)) (zC_st C) q_s2) gL_carriedAt_X7_carriedAt (by decide +kernel) kX0 vc7 rfl rfl dL_carriedAt_4 rfl ⟨Nat.le_of_ble_eq_true rfl, Nat.le_of_ble_eq_true rfl⟩ rfl (Nat.le_of_ble_eq_true rfl) ?_
  rw [show zMix 0 zLX.length s s2 = s3 from e_s3.symm]
  refine z_i2l C dL_carriedAt_7 ?_
  obtain ⟨s4, i_s4, e_s4, hm⟩ := zWr_of hm
  refine z_last (x := x1) C rfl kL46 i_s4 e_s4 dL_carriedAt_8 ?_
  refine z_goto (tgt := 15) C dL_carriedAt_9 (by decide) ?_
  refine z_iconst (v := (0 : Int32)) C dL_carriedAt_15 (by decide) ?_
  exact z_hret C hQ (Sum.inl.inj (zRt_of hm).1) (zRt_of hm).2 dL_carriedAt_16
set_option maxRecDepth 100000 in
set_option maxHeartbeats 4000000 in
theorem c_L_carriedAt {h : zH} {ad : Nat → Nat} (hI : zI ad zLL.length) (hst : h.1.stackTraces = false) {n : Nat} {v1 : Int32} {r : Int32} {s s9 : zS} (hm : m_L_carriedAt n v1 s = some (r, s9)) : zMH h ad zLL yL_carriedAt wsL_carriedAt 8 131 [.ref (ad 0), .int v1, .ref (ad 46)] s r s9 :=
  z_startH (hh := [(0, 9, 12, 13)]) (cc := cL_carriedAt) (nL := 4) (ret := some .int) (own := RL) (by decide +kernel) rfl rfl hI hst (Nat.le_of_ble_eq_true rfl) (fun G C hQ => w_L_carriedAt C hQ hm)
set_option maxRecDepth 100000 in
theorem eL_addCredit_k15 : Cond.classLink RL 15 (zEx 2) ∈ wsL_addCredit := by decide +kernel
set_option maxRecDepth 100000 in
theorem eL_addCredit_k17 : Cond.classLink RL 17 (zEx 3) ∈ wsL_addCredit := by decide +kernel
set_option maxRecDepth 100000 in
set_option maxHeartbeats 4000000 in
theorem w_L_addCredit {h : zH} {ad : Nat → Nat} {G : zG} (C : zCT (tableOf [(0, 10, 13, 15), (0, 10, 17, 17)]) h ad zLL 5 G cL_addCredit RL wsL_addCredit 8 132) {n : Nat} {r : Int32} {s9 : zS} (hQ : zQh h ad zLL G r s9 (some .int)) {v1 : Int32} {v2 : Int32} {s : zS} (hm : m_L_addCredit n v1 v2 s = some (r, s9)) : zV h ad zLL 5 G s 0 [(0, .ref (ad 0)), (1, .int v1), (2, .int v2), (3, .ref (ad 46))] [] := by
  rw [m_L_addCredit] at hm
  refine z_aload_n C dL_addCredit_0 rfl 3 rfl ?_
  refine z_iconst (v := (0 : Int32)) C dL_addCredit_1 (by decide) ?_
  refine z_aload_n C dL_addCredit_2 rfl 0 rfl ?_
  refine z_iload_n C dL_addCredit_3 rfl 1 rfl ?_
  refine z_iload_n C dL_addCredit_4 rfl 2 rfl ?_
  rcases zHx_of hm with h_s2 | ⟨k, s2, q_s2, hm⟩
  rotate_left
  · by_cases hk2 : k = 2
    · subst hk2; have hm := zIt hm rfl
      exact z_hx (ex := 2) (vd := false) (Cn := RX7) (k := 0) (o := 0) C 2 [.int v1, .int v2] [.int (0 : Int32), .ref (ad 46)] sX (c_X7_addCredit (zI_sub sX (zC_I C)) (zC_st C) q_s2) hQ gL_addCredit_X7_addCredit (by decide +kernel) kX0 vc7 rfl rfl dL_addCredit_5 rfl ⟨Nat.le_of_ble_eq_true rfl, Nat.le_of_ble_eq_true rfl⟩ rfl (Nat.le_of_ble_eq_true rfl) [] ⟨0, 10, 13, 15⟩ [⟨0, 10, 17, 17⟩] rfl (fun z hz => absurd hz List.not_mem_nil) (by decide) (by decide) eL_addCredit_k15 (Or.inl ⟨dL_addCredit_13, rfl⟩) (by decide) (by decide) dL_addCredit_15 dL_addCredit_16 (Sum.inl.inj (zRt_of hm).1) (zRt_of hm).2
    have hm := zIf hm hk2
    by_cases hk3 : k = 3
    · subst hk3; have hm := zIt hm rfl
      exact z_hx (ex := 3) (vd := false) (Cn := RX7) (k := 0) (o := 0) C 2 [.int v1, .int v2] [.int (0 : Int32), .ref (ad 46)] sX (c_X7_addCredit (zI_sub sX (zC_I C)) (zC_st C) q_s2) hQ gL_addCredit_X7_addCredit (by decide +kernel) kX0 vc7 rfl rfl dL_addCredit_5 rfl ⟨Nat.le_of_ble_eq_true rfl, Nat.le_of_ble_eq_true rfl⟩ rfl (Nat.le_of_ble_eq_true rfl) [⟨0, 10, 13, 15⟩] ⟨0, 10, 17, 17⟩ [] rfl (by intro z hz; simp only [List.mem_cons, List.not_mem_nil, or_false] at hz; subst hz; exact ⟨by decide, 2, eL_addCredit_k15, by decide⟩) (by decide) (by decide) eL_addCredit_k17 (Or.inl ⟨dL_addCredit_17, rfl⟩) (by decide) (by decide) dL_addCredit_19 dL_addCredit_20 (Sum.inl.inj (zRt_of hm).1) (zRt_of hm).2
    have hm := zIf hm hk3
    cases hm
  obtain ⟨x1, s2, q_s2, hm⟩ := h_s2
  obtain ⟨s3, e_s3, hm⟩ := zLt_of hm
  refine z_dV (vd := false) (Cn := RX7) (k := 0) (o := 0) C 2 [.int v1, .int v2] [.int (0 : Int32), .ref (ad 46)] sX (c_X7_addCredit (zI_sub sX (zC_I C)) (zC_st C) q_s2) gL_addCredit_X7_addCredit (by decide +kernel) kX0 vc7 rfl rfl dL_addCredit_5 rfl ⟨Nat.le_of_ble_eq_true rfl, Nat.le_of_ble_eq_true rfl⟩ rfl (Nat.le_of_ble_eq_true rfl) ?_
  rw [show zMix 0 zLX.length s s2 = s3 from e_s3.symm]
  refine z_i2l C dL_addCredit_8 ?_
  obtain ⟨s4, i_s4, e_s4, hm⟩ := zWr_of hm
  refine z_last (x := x1) C rfl kL46 i_s4 e_s4 dL_addCredit_9 ?_
  refine z_goto (tgt := 21) C dL_addCredit_10 (by decide) ?_
  refine z_iconst (v := (0 : Int32)) C dL_addCredit_21 (by decide) ?_
  exact z_hret C hQ (Sum.inl.inj (zRt_of hm).1) (zRt_of hm).2 dL_addCredit_22
set_option maxRecDepth 100000 in
set_option maxHeartbeats 4000000 in
theorem c_L_addCredit {h : zH} {ad : Nat → Nat} (hI : zI ad zLL.length) (hst : h.1.stackTraces = false) {n : Nat} {v1 : Int32} {v2 : Int32} {r : Int32} {s s9 : zS} (hm : m_L_addCredit n v1 v2 s = some (r, s9)) : zMH h ad zLL yL_addCredit wsL_addCredit 8 132 [.ref (ad 0), .int v1, .int v2, .ref (ad 46)] s r s9 :=
  z_startH (hh := [(0, 10, 13, 15), (0, 10, 17, 17)]) (cc := cL_addCredit) (nL := 5) (ret := some .int) (own := RL) (by decide +kernel) rfl rfl hI hst (Nat.le_of_ble_eq_true rfl) (fun G C hQ => w_L_addCredit C hQ hm)
set_option maxRecDepth 100000 in
theorem eL_dropCredit_k17 : Cond.classLink RL 17 (zEx 3) ∈ wsL_dropCredit := by decide +kernel
set_option maxRecDepth 100000 in
set_option maxHeartbeats 4000000 in
theorem w_L_dropCredit {h : zH} {ad : Nat → Nat} {G : zG} (C : zCT (tableOf [(0, 8, 11, 17)]) h ad zLL 3 G cL_dropCredit RL wsL_dropCredit 8 130) {n : Nat} {r : Int32} {s9 : zS} (hQ : zQh h ad zLL G r s9 (some .int))  {s : zS} (hm : m_L_dropCredit n  s = some (r, s9)) : zV h ad zLL 3 G s 0 [(0, .ref (ad 0)), (1, .ref (ad 46))] [] := by
  rw [m_L_dropCredit] at hm
  refine z_aload_n C dL_dropCredit_0 rfl 1 rfl ?_
  refine z_iconst (v := (0 : Int32)) C dL_dropCredit_1 (by decide) ?_
  refine z_aload_n C dL_dropCredit_2 rfl 0 rfl ?_
  rcases zHx_of hm with h_s2 | ⟨k, s2, q_s2, hm⟩
  rotate_left
  · by_cases hk3 : k = 3
    · subst hk3; have hm := zIt hm rfl
      exact z_hx (ex := 3) (vd := false) (Cn := RX7) (k := 0) (o := 0) C 0 [] [.int (0 : Int32), .ref (ad 46)] sX (c_X7_dropCredit (zI_sub sX (zC_I C)) (zC_st C) q_s2) hQ gL_dropCredit_X7_dropCredit (by decide +kernel) kX0 vc7 rfl rfl dL_dropCredit_3 rfl ⟨Nat.le_of_ble_eq_true rfl, Nat.le_of_ble_eq_true rfl⟩ rfl (Nat.le_of_ble_eq_true rfl) [] ⟨0, 8, 11, 17⟩ [] rfl (fun z hz => absurd hz List.not_mem_nil) (by decide) (by decide) eL_dropCredit_k17 (Or.inr ⟨2, rfl, dL_dropCredit_11, rfl⟩) (by decide) (by decide) dL_dropCredit_12 dL_dropCredit_13 (Sum.inl.inj (zRt_of hm).1) (zRt_of hm).2
    have hm := zIf hm hk3
    cases hm
  obtain ⟨x1, s2, q_s2, hm⟩ := h_s2
  obtain ⟨s3, e_s3, hm⟩ := zLt_of hm
  refine z_dV (vd := false) (Cn := RX7) (k := 0) (o := 0) C 0 [] [.int (0 : Int32), .ref (ad 46)] sX (c_X7_dropCredit (zI_sub sX (zC_I C)) (zC_st C) q_s2) gL_dropCredit_X7_dropCredit (by decide +kernel) kX0 vc7 rfl rfl dL_dropCredit_3 rfl ⟨Nat.le_of_ble_eq_true rfl, Nat.le_of_ble_eq_true rfl⟩ rfl (Nat.le_of_ble_eq_true rfl) ?_
  rw [show zMix 0 zLX.length s s2 = s3 from e_s3.symm]
  refine z_i2l C dL_dropCredit_6 ?_
  obtain ⟨s4, i_s4, e_s4, hm⟩ := zWr_of hm
  refine z_last (x := x1) C rfl kL46 i_s4 e_s4 dL_dropCredit_7 ?_
  refine z_goto (tgt := 14) C dL_dropCredit_8 (by decide) ?_
  refine z_iconst (v := (0 : Int32)) C dL_dropCredit_14 (by decide) ?_
  exact z_hret C hQ (Sum.inl.inj (zRt_of hm).1) (zRt_of hm).2 dL_dropCredit_15
set_option maxRecDepth 100000 in
set_option maxHeartbeats 4000000 in
theorem c_L_dropCredit {h : zH} {ad : Nat → Nat} (hI : zI ad zLL.length) (hst : h.1.stackTraces = false) {n : Nat}  {r : Int32} {s s9 : zS} (hm : m_L_dropCredit n  s = some (r, s9)) : zMH h ad zLL yL_dropCredit wsL_dropCredit 8 130 [.ref (ad 0), .ref (ad 46)] s r s9 :=
  z_startH (hh := [(0, 8, 11, 17)]) (cc := cL_dropCredit) (nL := 3) (ret := some .int) (own := RL) (by decide +kernel) rfl rfl hI hst (Nat.le_of_ble_eq_true rfl) (fun G C hQ => w_L_dropCredit C hQ hm)
set_option maxRecDepth 100000 in
theorem eL_creditAt_k13 : Cond.classLink RL 13 (zEx 1) ∈ wsL_creditAt := by decide +kernel
set_option maxRecDepth 100000 in
set_option maxHeartbeats 4000000 in
theorem w_L_creditAt {h : zH} {ad : Nat → Nat} {G : zG} (C : zCT (tableOf [(0, 10, 13, 13)]) h ad zLL 5 G cL_creditAt RL wsL_creditAt 9 185) {n : Nat} {r : Int32} {s9 : zS} (hQ : zQh h ad zLL G r s9 (some .int)) {v1 : Int32} {v2 : Int32} {s : zS} (hm : m_L_creditAt n v1 v2 s = some (r, s9)) : zV h ad zLL 5 G s 0 [(0, .ref (ad 0)), (1, .int v1), (2, .int v2), (3, .ref (ad 46))] [] := by
  rw [m_L_creditAt] at hm
  refine z_aload_n C dL_creditAt_0 rfl 3 rfl ?_
  refine z_iconst (v := (0 : Int32)) C dL_creditAt_1 (by decide) ?_
  refine z_aload_n C dL_creditAt_2 rfl 0 rfl ?_
  refine z_iload_n C dL_creditAt_3 rfl 1 rfl ?_
  refine z_iload_n C dL_creditAt_4 rfl 2 rfl ?_
  rcases zHx_of hm with h_s2 | ⟨k, s2, q_s2, hm⟩
  rotate_left
  · by_cases hk1 : k = 1
    · subst hk1; have hm := zIt hm rfl
      exact z_hx (ex := 1) (vd := false) (Cn := RX7) (k := 0) (o := 0) C 2 [.int v1, .int v2] [.int (0 : Int32), .ref (ad 46)] sX (c_X7_creditAt (zI_sub sX (zC_I C)) (zC_st C) q_s2) hQ gL_creditAt_X7_creditAt (by decide +kernel) kX0 vc7 rfl rfl dL_creditAt_5 rfl ⟨Nat.le_of_ble_eq_true rfl, Nat.le_of_ble_eq_true rfl⟩ rfl (Nat.le_of_ble_eq_true rfl) [] ⟨0, 10, 13, 13⟩ [] rfl (fun z hz => absurd hz List.not_mem_nil) (by decide) (by decide) eL_creditAt_k13 (Or.inl ⟨dL_creditAt_13, rfl⟩) (by decide) (by decide) dL_creditAt_15 dL_creditAt_16 (Sum.inl.inj (zRt_of hm).1) (zRt_of hm).2
    have hm := zIf hm hk1
    cases hm
  obtain ⟨x1, s2, q_s2, hm⟩ := h_s2
  obtain ⟨s3, e_s3, hm⟩ := zLt_of hm
  refine z_dV (vd := false) (Cn := RX7) (k := 0) (o := 0) C 2 [.int v1, .int v2] [.int (0 : Int32), .ref (ad 46)] sX (c_X7_creditAt (zI_sub sX (zC_I C)) (zC_st C) q_s2) gL_creditAt_X7_creditAt (by decide +kernel) kX0 vc7 rfl rfl dL_creditAt_5 rfl ⟨Nat.le_of_ble_eq_true rfl, Nat.le_of_ble_eq_true rfl⟩ rfl (Nat.le_of_ble_eq_true rfl) ?_
  rw [show zMix 0 zLX.length s s2 = s3 from e_s3.symm]
  refine z_i2l C dL_creditAt_8 ?_
  obtain ⟨s4, i_s4, e_s4, hm⟩ := zWr_of hm
  refine z_last (x := x1) C rfl kL46 i_s4 e_s4 dL_creditAt_9 ?_
  refine z_goto (tgt := 17) C dL_creditAt_10 (by decide) ?_
  refine z_iconst (v := (0 : Int32)) C dL_creditAt_17 (by decide) ?_
  exact z_hret C hQ (Sum.inl.inj (zRt_of hm).1) (zRt_of hm).2 dL_creditAt_18
set_option maxRecDepth 100000 in
set_option maxHeartbeats 4000000 in
theorem c_L_creditAt {h : zH} {ad : Nat → Nat} (hI : zI ad zLL.length) (hst : h.1.stackTraces = false) {n : Nat} {v1 : Int32} {v2 : Int32} {r : Int32} {s s9 : zS} (hm : m_L_creditAt n v1 v2 s = some (r, s9)) : zMH h ad zLL yL_creditAt wsL_creditAt 9 185 [.ref (ad 0), .int v1, .int v2, .ref (ad 46)] s r s9 :=
  z_startH (hh := [(0, 10, 13, 13)]) (cc := cL_creditAt) (nL := 5) (ret := some .int) (own := RL) (by decide +kernel) rfl rfl hI hst (Nat.le_of_ble_eq_true rfl) (fun G C hQ => w_L_creditAt C hQ hm)
set_option maxRecDepth 100000 in
theorem eL_afterCredits_k13 : Cond.classLink RL 13 (zEx 1) ∈ wsL_afterCredits := by decide +kernel
set_option maxRecDepth 100000 in
set_option maxHeartbeats 4000000 in
theorem w_L_afterCredits {h : zH} {ad : Nat → Nat} {G : zG} (C : zCT (tableOf [(0, 9, 12, 13)]) h ad zLL 4 G cL_afterCredits RL wsL_afterCredits 9 185) {n : Nat} {r : Int32} {s9 : zS} (hQ : zQh h ad zLL G r s9 (some .int)) {v1 : Int32} {s : zS} (hm : m_L_afterCredits n v1 s = some (r, s9)) : zV h ad zLL 4 G s 0 [(0, .ref (ad 0)), (1, .int v1), (2, .ref (ad 46))] [] := by
  rw [m_L_afterCredits] at hm
  refine z_aload_n C dL_afterCredits_0 rfl 2 rfl ?_
  refine z_iconst (v := (0 : Int32)) C dL_afterCredits_1 (by decide) ?_
  refine z_aload_n C dL_afterCredits_2 rfl 0 rfl ?_
  refine z_iload_n C dL_afterCredits_3 rfl 1 rfl ?_
  rcases zHx_of hm with h_s2 | ⟨k, s2, q_s2, hm⟩
  rotate_left
  · by_cases hk1 : k = 1
    · subst hk1; have hm := zIt hm rfl
      exact z_hx (ex := 1) (vd := false) (Cn := RX7) (k := 0) (o := 0) C 1 [.int v1] [.int (0 : Int32), .ref (ad 46)] sX (c_X7_afterCredits (zI_sub sX (zC_I C)) (zC_st C) q_s2) hQ gL_afterCredits_X7_afterCredits (by decide +kernel) kX0 vc7 rfl rfl dL_afterCredits_4 rfl ⟨Nat.le_of_ble_eq_true rfl, Nat.le_of_ble_eq_true rfl⟩ rfl (Nat.le_of_ble_eq_true rfl) [] ⟨0, 9, 12, 13⟩ [] rfl (fun z hz => absurd hz List.not_mem_nil) (by decide) (by decide) eL_afterCredits_k13 (Or.inr ⟨3, rfl, dL_afterCredits_12, rfl⟩) (by decide) (by decide) dL_afterCredits_13 dL_afterCredits_14 (Sum.inl.inj (zRt_of hm).1) (zRt_of hm).2
    have hm := zIf hm hk1
    cases hm
  obtain ⟨x1, s2, q_s2, hm⟩ := h_s2
  obtain ⟨s3, e_s3, hm⟩ := zLt_of hm
  refine z_dV (vd := false) (Cn := RX7) (k := 0) (o := 0) C 1 [.int v1] [.int (0 : Int32), .ref (ad 46)] sX (c_X7_afterCredits (zI_sub sX (zC_I C)) (zC_st C) q_s2) gL_afterCredits_X7_afterCredits (by decide +kernel) kX0 vc7 rfl rfl dL_afterCredits_4 rfl ⟨Nat.le_of_ble_eq_true rfl, Nat.le_of_ble_eq_true rfl⟩ rfl (Nat.le_of_ble_eq_true rfl) ?_
  rw [show zMix 0 zLX.length s s2 = s3 from e_s3.symm]
  refine z_i2l C dL_afterCredits_7 ?_
  obtain ⟨s4, i_s4, e_s4, hm⟩ := zWr_of hm
  refine z_last (x := x1) C rfl kL46 i_s4 e_s4 dL_afterCredits_8 ?_
  refine z_goto (tgt := 15) C dL_afterCredits_9 (by decide) ?_
  refine z_iconst (v := (0 : Int32)) C dL_afterCredits_15 (by decide) ?_
  exact z_hret C hQ (Sum.inl.inj (zRt_of hm).1) (zRt_of hm).2 dL_afterCredits_16
set_option maxRecDepth 100000 in
set_option maxHeartbeats 4000000 in
theorem c_L_afterCredits {h : zH} {ad : Nat → Nat} (hI : zI ad zLL.length) (hst : h.1.stackTraces = false) {n : Nat} {v1 : Int32} {r : Int32} {s s9 : zS} (hm : m_L_afterCredits n v1 s = some (r, s9)) : zMH h ad zLL yL_afterCredits wsL_afterCredits 9 185 [.ref (ad 0), .int v1, .ref (ad 46)] s r s9 :=
  z_startH (hh := [(0, 9, 12, 13)]) (cc := cL_afterCredits) (nL := 4) (ret := some .int) (own := RL) (by decide +kernel) rfl rfl hI hst (Nat.le_of_ble_eq_true rfl) (fun G C hQ => w_L_afterCredits C hQ hm)
set_option maxRecDepth 100000 in
theorem eL_bestSum_k13 : Cond.classLink RL 13 (zEx 1) ∈ wsL_bestSum := by decide +kernel
set_option maxRecDepth 100000 in
set_option maxHeartbeats 4000000 in
theorem w_L_bestSum {h : zH} {ad : Nat → Nat} {G : zG} (C : zCT (tableOf [(0, 9, 12, 13)]) h ad zLL 4 G cL_bestSum RL wsL_bestSum 9 184) {n : Nat} {r : Int32} {s9 : zS} (hQ : zQh h ad zLL G r s9 (some .int)) {v1 : Int32} {s : zS} (hm : m_L_bestSum n v1 s = some (r, s9)) : zV h ad zLL 4 G s 0 [(0, .ref (ad 0)), (1, .int v1), (2, .ref (ad 46))] [] := by
  rw [m_L_bestSum] at hm
  refine z_aload_n C dL_bestSum_0 rfl 2 rfl ?_
  refine z_iconst (v := (0 : Int32)) C dL_bestSum_1 (by decide) ?_
  refine z_aload_n C dL_bestSum_2 rfl 0 rfl ?_
  refine z_iload_n C dL_bestSum_3 rfl 1 rfl ?_
  rcases zHx_of hm with h_s2 | ⟨k, s2, q_s2, hm⟩
  rotate_left
  · by_cases hk1 : k = 1
    · subst hk1; have hm := zIt hm rfl
      exact z_hx (ex := 1) (vd := false) (Cn := RX7) (k := 0) (o := 0) C 1 [.int v1] [.int (0 : Int32), .ref (ad 46)] sX (c_X7_bestSum (zI_sub sX (zC_I C)) (zC_st C) q_s2) hQ gL_bestSum_X7_bestSum (by decide +kernel) kX0 vc7 rfl rfl dL_bestSum_4 rfl ⟨Nat.le_of_ble_eq_true rfl, Nat.le_of_ble_eq_true rfl⟩ rfl (Nat.le_of_ble_eq_true rfl) [] ⟨0, 9, 12, 13⟩ [] rfl (fun z hz => absurd hz List.not_mem_nil) (by decide) (by decide) eL_bestSum_k13 (Or.inr ⟨3, rfl, dL_bestSum_12, rfl⟩) (by decide) (by decide) dL_bestSum_13 dL_bestSum_14 (Sum.inl.inj (zRt_of hm).1) (zRt_of hm).2
    have hm := zIf hm hk1
    cases hm
  obtain ⟨x1, s2, q_s2, hm⟩ := h_s2
  obtain ⟨s3, e_s3, hm⟩ := zLt_of hm
  refine z_dV (vd := false) (Cn := RX7) (k := 0) (o := 0) C 1 [.int v1] [.int (0 : Int32), .ref (ad 46)] sX (c_X7_bestSum (zI_sub sX (zC_I C)) (zC_st C) q_s2) gL_bestSum_X7_bestSum (by decide +kernel) kX0 vc7 rfl rfl dL_bestSum_4 rfl ⟨Nat.le_of_ble_eq_true rfl, Nat.le_of_ble_eq_true rfl⟩ rfl (Nat.le_of_ble_eq_true rfl) ?_
  rw [show zMix 0 zLX.length s s2 = s3 from e_s3.symm]
  refine z_i2l C dL_bestSum_7 ?_
  obtain ⟨s4, i_s4, e_s4, hm⟩ := zWr_of hm
  refine z_last (x := x1) C rfl kL46 i_s4 e_s4 dL_bestSum_8 ?_
  refine z_goto (tgt := 15) C dL_bestSum_9 (by decide) ?_
  refine z_iconst (v := (0 : Int32)) C dL_bestSum_15 (by decide) ?_
  exact z_hret C hQ (Sum.inl.inj (zRt_of hm).1) (zRt_of hm).2 dL_bestSum_16
set_option maxRecDepth 100000 in
set_option maxHeartbeats 4000000 in
theorem c_L_bestSum {h : zH} {ad : Nat → Nat} (hI : zI ad zLL.length) (hst : h.1.stackTraces = false) {n : Nat} {v1 : Int32} {r : Int32} {s s9 : zS} (hm : m_L_bestSum n v1 s = some (r, s9)) : zMH h ad zLL yL_bestSum wsL_bestSum 9 184 [.ref (ad 0), .int v1, .ref (ad 46)] s r s9 :=
  z_startH (hh := [(0, 9, 12, 13)]) (cc := cL_bestSum) (nL := 4) (ret := some .int) (own := RL) (by decide +kernel) rfl rfl hI hst (Nat.le_of_ble_eq_true rfl) (fun G C hQ => w_L_bestSum C hQ hm)
