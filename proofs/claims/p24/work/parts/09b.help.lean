/-! the law's two helpers, which catch: what they answer for what the engine answers -/
set_option maxRecDepth 100000 in
theorem eL_define_k13 : Cond.classLink RL 13 (zEx 1) ∈ wsL_define := by decide +kernel
set_option maxRecDepth 100000 in
theorem eL_define_k15 : Cond.classLink RL 15 (zEx 2) ∈ wsL_define := by decide +kernel
set_option maxRecDepth 100000 in
theorem eL_define_k17 : Cond.classLink RL 17 (zEx 3) ∈ wsL_define := by decide +kernel
set_option maxRecDepth 100000 in
theorem eL_act_k13 : Cond.classLink RL 13 (zEx 1) ∈ wsL_act := by decide +kernel
set_option maxRecDepth 100000 in
theorem eL_act_k15 : Cond.classLink RL 15 (zEx 2) ∈ wsL_act := by decide +kernel
set_option maxRecDepth 100000 in
theorem eL_act_k17 : Cond.classLink RL 17 (zEx 3) ∈ wsL_act := by decide +kernel
set_option maxRecDepth 100000 in
set_option maxHeartbeats 4000000 in
theorem cL_define_v {h : zH} {ad : Nat → Nat} (hI : zI ad zLX.length) (hst : h.1.stackTraces = false) {n : Nat} {v1 : Int32} {v2 : Int32} {v3 : Int32} {v4 : Int32} {r0 : Int32} {s s9 : zS} (hm : m_X7_define n v1 v2 v3 v4 s = some (.inl r0, s9)) : zMH h ad zLX yL_define wsL_define 9 168 [.ref (ad 0), .int v1, .int v2, .int v3, .int v4] s 0 s9 := by
  refine z_startH (hh := [(0, 10, 11, 13), (0, 10, 16, 15), (0, 10, 21, 17)]) (cc := cL_define) (nL := 6) (ret := some .int) (own := RL) (by decide +kernel) rfl rfl hI hst (Nat.le_of_ble_eq_true rfl) (fun G C hQ => ?_)
  show zV h ad zLX 6 G s 0 [(0, .ref (ad 0)), (1, .int v1), (2, .int v2), (3, .int v3), (4, .int v4)] []
  refine z_aload_n C dL_define_0 rfl 0 rfl ?_
  refine z_iload_n C dL_define_1 rfl 1 rfl ?_
  refine z_iload_n C dL_define_2 rfl 2 rfl ?_
  refine z_iload_n C dL_define_3 rfl 3 rfl ?_
  refine z_iload C dL_define_4 4 rfl ?_
  refine z_cV (vd := true) (Cn := RX7) (k := 0) C 4 [.int v1, .int v2, .int v3, .int v4] [] (c_X7_define (zC_I C) (zC_st C) hm) gL_define_X7_define (by decide +kernel) kX0 vc7 rfl rfl dL_define_6 rfl ⟨Nat.le_of_ble_eq_true rfl, Nat.le_of_ble_eq_true rfl⟩ rfl (Nat.le_of_ble_eq_true rfl) ?_
  refine z_iconst (v := (0 : Int32)) C dL_define_9 (by decide) ?_
  exact z_hret C hQ rfl rfl dL_define_10
set_option maxRecDepth 100000 in
set_option maxHeartbeats 4000000 in
theorem cL_define_x1 {h : zH} {ad : Nat → Nat} (hI : zI ad zLX.length) (hst : h.1.stackTraces = false) {n : Nat} {v1 : Int32} {v2 : Int32} {v3 : Int32} {v4 : Int32} {s s9 : zS} (hm : m_X7_define n v1 v2 v3 v4 s = some (.inr 1, s9)) : zMH h ad zLX yL_define wsL_define 9 168 [.ref (ad 0), .int v1, .int v2, .int v3, .int v4] s (-71 : Int32) s9 := by
  refine z_startH (hh := [(0, 10, 11, 13), (0, 10, 16, 15), (0, 10, 21, 17)]) (cc := cL_define) (nL := 6) (ret := some .int) (own := RL) (by decide +kernel) rfl rfl hI hst (Nat.le_of_ble_eq_true rfl) (fun G C hQ => ?_)
  show zV h ad zLX 6 G s 0 [(0, .ref (ad 0)), (1, .int v1), (2, .int v2), (3, .int v3), (4, .int v4)] []
  refine z_aload_n C dL_define_0 rfl 0 rfl ?_
  refine z_iload_n C dL_define_1 rfl 1 rfl ?_
  refine z_iload_n C dL_define_2 rfl 2 rfl ?_
  refine z_iload_n C dL_define_3 rfl 3 rfl ?_
  refine z_iload C dL_define_4 4 rfl ?_
  exact z_hv (ex := 1) (vd := true) (Cn := RX7) (k := 0) C 4 [.int v1, .int v2, .int v3, .int v4] [] (c_X7_define (zC_I C) (zC_st C) hm) hQ gL_define_X7_define (by decide +kernel) kX0 vc7 rfl rfl dL_define_6 rfl ⟨Nat.le_of_ble_eq_true rfl, Nat.le_of_ble_eq_true rfl⟩ rfl (Nat.le_of_ble_eq_true rfl) [] ⟨0, 10, 11, 13⟩ [⟨0, 10, 16, 15⟩, ⟨0, 10, 21, 17⟩] rfl (fun z hz => absurd hz List.not_mem_nil) (by decide) (by decide) eL_define_k13 dL_define_11 (by decide) (by decide) dL_define_13 dL_define_15 rfl rfl
set_option maxRecDepth 100000 in
set_option maxHeartbeats 4000000 in
theorem cL_define_x2 {h : zH} {ad : Nat → Nat} (hI : zI ad zLX.length) (hst : h.1.stackTraces = false) {n : Nat} {v1 : Int32} {v2 : Int32} {v3 : Int32} {v4 : Int32} {s s9 : zS} (hm : m_X7_define n v1 v2 v3 v4 s = some (.inr 2, s9)) : zMH h ad zLX yL_define wsL_define 9 168 [.ref (ad 0), .int v1, .int v2, .int v3, .int v4] s (-72 : Int32) s9 := by
  refine z_startH (hh := [(0, 10, 11, 13), (0, 10, 16, 15), (0, 10, 21, 17)]) (cc := cL_define) (nL := 6) (ret := some .int) (own := RL) (by decide +kernel) rfl rfl hI hst (Nat.le_of_ble_eq_true rfl) (fun G C hQ => ?_)
  show zV h ad zLX 6 G s 0 [(0, .ref (ad 0)), (1, .int v1), (2, .int v2), (3, .int v3), (4, .int v4)] []
  refine z_aload_n C dL_define_0 rfl 0 rfl ?_
  refine z_iload_n C dL_define_1 rfl 1 rfl ?_
  refine z_iload_n C dL_define_2 rfl 2 rfl ?_
  refine z_iload_n C dL_define_3 rfl 3 rfl ?_
  refine z_iload C dL_define_4 4 rfl ?_
  exact z_hv (ex := 2) (vd := true) (Cn := RX7) (k := 0) C 4 [.int v1, .int v2, .int v3, .int v4] [] (c_X7_define (zC_I C) (zC_st C) hm) hQ gL_define_X7_define (by decide +kernel) kX0 vc7 rfl rfl dL_define_6 rfl ⟨Nat.le_of_ble_eq_true rfl, Nat.le_of_ble_eq_true rfl⟩ rfl (Nat.le_of_ble_eq_true rfl) [⟨0, 10, 11, 13⟩] ⟨0, 10, 16, 15⟩ [⟨0, 10, 21, 17⟩] rfl (by intro z hz; simp only [List.mem_cons, List.not_mem_nil, or_false] at hz; subst hz; exact ⟨by decide, 1, eL_define_k13, by decide⟩) (by decide) (by decide) eL_define_k15 dL_define_16 (by decide) (by decide) dL_define_18 dL_define_20 rfl rfl
set_option maxRecDepth 100000 in
set_option maxHeartbeats 4000000 in
theorem cL_define_x3 {h : zH} {ad : Nat → Nat} (hI : zI ad zLX.length) (hst : h.1.stackTraces = false) {n : Nat} {v1 : Int32} {v2 : Int32} {v3 : Int32} {v4 : Int32} {s s9 : zS} (hm : m_X7_define n v1 v2 v3 v4 s = some (.inr 3, s9)) : zMH h ad zLX yL_define wsL_define 9 168 [.ref (ad 0), .int v1, .int v2, .int v3, .int v4] s (-73 : Int32) s9 := by
  refine z_startH (hh := [(0, 10, 11, 13), (0, 10, 16, 15), (0, 10, 21, 17)]) (cc := cL_define) (nL := 6) (ret := some .int) (own := RL) (by decide +kernel) rfl rfl hI hst (Nat.le_of_ble_eq_true rfl) (fun G C hQ => ?_)
  show zV h ad zLX 6 G s 0 [(0, .ref (ad 0)), (1, .int v1), (2, .int v2), (3, .int v3), (4, .int v4)] []
  refine z_aload_n C dL_define_0 rfl 0 rfl ?_
  refine z_iload_n C dL_define_1 rfl 1 rfl ?_
  refine z_iload_n C dL_define_2 rfl 2 rfl ?_
  refine z_iload_n C dL_define_3 rfl 3 rfl ?_
  refine z_iload C dL_define_4 4 rfl ?_
  exact z_hv (ex := 3) (vd := true) (Cn := RX7) (k := 0) C 4 [.int v1, .int v2, .int v3, .int v4] [] (c_X7_define (zC_I C) (zC_st C) hm) hQ gL_define_X7_define (by decide +kernel) kX0 vc7 rfl rfl dL_define_6 rfl ⟨Nat.le_of_ble_eq_true rfl, Nat.le_of_ble_eq_true rfl⟩ rfl (Nat.le_of_ble_eq_true rfl) [⟨0, 10, 11, 13⟩, ⟨0, 10, 16, 15⟩] ⟨0, 10, 21, 17⟩ [] rfl (by intro z hz; simp only [List.mem_cons, List.not_mem_nil, or_false] at hz; rcases hz with rfl | rfl; exact ⟨by decide, 1, eL_define_k13, by decide⟩; exact ⟨by decide, 2, eL_define_k15, by decide⟩) (by decide) (by decide) eL_define_k17 dL_define_21 (by decide) (by decide) dL_define_23 dL_define_25 rfl rfl
set_option maxRecDepth 100000 in
set_option maxHeartbeats 4000000 in
theorem cL_act_answer_v {h : zH} {ad : Nat → Nat} (hI : zI ad zLX.length) (hst : h.1.stackTraces = false) {n : Nat} {v2 : Int32} {v3 : Int32} {r : Int32} {s s9 : zS} (hm : m_X7_answer n v2 v3 s = some (.inl r, s9)) : zMH h ad zLX yL_act wsL_act 9 186 [.ref (ad 0), .int (0 : Int32), .int v2, .int v3] s r s9 := by
  refine z_startH (hh := [(0, 223, 224, 13), (0, 223, 229, 15), (0, 223, 234, 17)]) (cc := cL_act) (nL := 5) (ret := some .int) (own := RL) (by decide +kernel) rfl rfl hI hst (Nat.le_of_ble_eq_true rfl) (fun G C hQ => ?_)
  show zV h ad zLX 5 G s 0 [(0, .ref (ad 0)), (1, .int (0 : Int32)), (2, .int v2), (3, .int v3)] []
  refine z_iload_n C dL_act_0 rfl 1 rfl ?_
  refine z_if_ne (tgt := 13) C dL_act_1 (by decide) (fun c => absurd (by decide) c) (fun _ => ?_)
  refine z_aload_n C dL_act_4 rfl 0 rfl ?_
  refine z_iload_n C dL_act_5 rfl 2 rfl ?_
  refine z_iload_n C dL_act_6 rfl 3 rfl ?_
  refine z_cV (vd := false) (Cn := RX7) (k := 0) C 2 [.int v2, .int v3] [] (c_X7_answer (zC_I C) (zC_st C) hm) gL_act_X7_answer (by decide +kernel) kX0 vc7 rfl rfl dL_act_7 rfl ⟨Nat.le_of_ble_eq_true rfl, Nat.le_of_ble_eq_true rfl⟩ rfl (Nat.le_of_ble_eq_true rfl) ?_
  refine z_goto (tgt := 223) C dL_act_10 (by decide) ?_
  exact z_hret C hQ rfl rfl dL_act_223
set_option maxRecDepth 100000 in
set_option maxHeartbeats 4000000 in
theorem cL_act_answer_x1 {h : zH} {ad : Nat → Nat} (hI : zI ad zLX.length) (hst : h.1.stackTraces = false) {n : Nat} {v2 : Int32} {v3 : Int32} {s s9 : zS} (hm : m_X7_answer n v2 v3 s = some (.inr 1, s9)) : zMH h ad zLX yL_act wsL_act 9 186 [.ref (ad 0), .int (0 : Int32), .int v2, .int v3] s (-71 : Int32) s9 := by
  refine z_startH (hh := [(0, 223, 224, 13), (0, 223, 229, 15), (0, 223, 234, 17)]) (cc := cL_act) (nL := 5) (ret := some .int) (own := RL) (by decide +kernel) rfl rfl hI hst (Nat.le_of_ble_eq_true rfl) (fun G C hQ => ?_)
  show zV h ad zLX 5 G s 0 [(0, .ref (ad 0)), (1, .int (0 : Int32)), (2, .int v2), (3, .int v3)] []
  refine z_iload_n C dL_act_0 rfl 1 rfl ?_
  refine z_if_ne (tgt := 13) C dL_act_1 (by decide) (fun c => absurd (by decide) c) (fun _ => ?_)
  refine z_aload_n C dL_act_4 rfl 0 rfl ?_
  refine z_iload_n C dL_act_5 rfl 2 rfl ?_
  refine z_iload_n C dL_act_6 rfl 3 rfl ?_
  exact z_hv (ex := 1) (vd := false) (Cn := RX7) (k := 0) C 2 [.int v2, .int v3] [] (c_X7_answer (zC_I C) (zC_st C) hm) hQ gL_act_X7_answer (by decide +kernel) kX0 vc7 rfl rfl dL_act_7 rfl ⟨Nat.le_of_ble_eq_true rfl, Nat.le_of_ble_eq_true rfl⟩ rfl (Nat.le_of_ble_eq_true rfl) [] ⟨0, 223, 224, 13⟩ [⟨0, 223, 229, 15⟩, ⟨0, 223, 234, 17⟩] rfl (fun z hz => absurd hz List.not_mem_nil) (by decide) (by decide) eL_act_k13 dL_act_224 (by decide) (by decide) dL_act_226 dL_act_228 rfl rfl
set_option maxRecDepth 100000 in
set_option maxHeartbeats 4000000 in
theorem cL_act_answer_x2 {h : zH} {ad : Nat → Nat} (hI : zI ad zLX.length) (hst : h.1.stackTraces = false) {n : Nat} {v2 : Int32} {v3 : Int32} {s s9 : zS} (hm : m_X7_answer n v2 v3 s = some (.inr 2, s9)) : zMH h ad zLX yL_act wsL_act 9 186 [.ref (ad 0), .int (0 : Int32), .int v2, .int v3] s (-72 : Int32) s9 := by
  refine z_startH (hh := [(0, 223, 224, 13), (0, 223, 229, 15), (0, 223, 234, 17)]) (cc := cL_act) (nL := 5) (ret := some .int) (own := RL) (by decide +kernel) rfl rfl hI hst (Nat.le_of_ble_eq_true rfl) (fun G C hQ => ?_)
  show zV h ad zLX 5 G s 0 [(0, .ref (ad 0)), (1, .int (0 : Int32)), (2, .int v2), (3, .int v3)] []
  refine z_iload_n C dL_act_0 rfl 1 rfl ?_
  refine z_if_ne (tgt := 13) C dL_act_1 (by decide) (fun c => absurd (by decide) c) (fun _ => ?_)
  refine z_aload_n C dL_act_4 rfl 0 rfl ?_
  refine z_iload_n C dL_act_5 rfl 2 rfl ?_
  refine z_iload_n C dL_act_6 rfl 3 rfl ?_
  exact z_hv (ex := 2) (vd := false) (Cn := RX7) (k := 0) C 2 [.int v2, .int v3] [] (c_X7_answer (zC_I C) (zC_st C) hm) hQ gL_act_X7_answer (by decide +kernel) kX0 vc7 rfl rfl dL_act_7 rfl ⟨Nat.le_of_ble_eq_true rfl, Nat.le_of_ble_eq_true rfl⟩ rfl (Nat.le_of_ble_eq_true rfl) [⟨0, 223, 224, 13⟩] ⟨0, 223, 229, 15⟩ [⟨0, 223, 234, 17⟩] rfl (by intro z hz; simp only [List.mem_cons, List.not_mem_nil, or_false] at hz; subst hz; exact ⟨by decide, 1, eL_act_k13, by decide⟩) (by decide) (by decide) eL_act_k15 dL_act_229 (by decide) (by decide) dL_act_231 dL_act_233 rfl rfl
set_option maxRecDepth 100000 in
set_option maxHeartbeats 4000000 in
theorem cL_act_kindOf_v {h : zH} {ad : Nat → Nat} (hI : zI ad zLX.length) (hst : h.1.stackTraces = false) {n : Nat} {v2 : Int32} {v3 : Int32} {r : Int32} {s s9 : zS} (hm : m_X7_kindOf n v2 s = some (.inl r, s9)) : zMH h ad zLX yL_act wsL_act 9 186 [.ref (ad 0), .int (1 : Int32), .int v2, .int v3] s r s9 := by
  refine z_startH (hh := [(0, 223, 224, 13), (0, 223, 229, 15), (0, 223, 234, 17)]) (cc := cL_act) (nL := 5) (ret := some .int) (own := RL) (by decide +kernel) rfl rfl hI hst (Nat.le_of_ble_eq_true rfl) (fun G C hQ => ?_)
  show zV h ad zLX 5 G s 0 [(0, .ref (ad 0)), (1, .int (1 : Int32)), (2, .int v2), (3, .int v3)] []
  refine z_iload_n C dL_act_0 rfl 1 rfl ?_
  refine z_if_ne (tgt := 13) C dL_act_1 (by decide) (fun _ => ?_) (fun c => absurd c (by decide))
  refine z_iload_n C dL_act_13 rfl 1 rfl ?_
  refine z_iconst (v := (1 : Int32)) C dL_act_14 (by decide) ?_
  refine z_icmp_ne (tgt := 26) C dL_act_15 (by decide) (fun c => absurd (by decide) c) (fun _ => ?_)
  refine z_aload_n C dL_act_18 rfl 0 rfl ?_
  refine z_iload_n C dL_act_19 rfl 2 rfl ?_
  refine z_cV (vd := false) (Cn := RX7) (k := 0) C 1 [.int v2] [] (c_X7_kindOf (zC_I C) (zC_st C) hm) gL_act_X7_kindOf (by decide +kernel) kX0 vc7 rfl rfl dL_act_20 rfl ⟨Nat.le_of_ble_eq_true rfl, Nat.le_of_ble_eq_true rfl⟩ rfl (Nat.le_of_ble_eq_true rfl) ?_
  refine z_goto (tgt := 223) C dL_act_23 (by decide) ?_
  exact z_hret C hQ rfl rfl dL_act_223
set_option maxRecDepth 100000 in
set_option maxHeartbeats 4000000 in
theorem cL_act_kindOf_x1 {h : zH} {ad : Nat → Nat} (hI : zI ad zLX.length) (hst : h.1.stackTraces = false) {n : Nat} {v2 : Int32} {v3 : Int32} {s s9 : zS} (hm : m_X7_kindOf n v2 s = some (.inr 1, s9)) : zMH h ad zLX yL_act wsL_act 9 186 [.ref (ad 0), .int (1 : Int32), .int v2, .int v3] s (-71 : Int32) s9 := by
  refine z_startH (hh := [(0, 223, 224, 13), (0, 223, 229, 15), (0, 223, 234, 17)]) (cc := cL_act) (nL := 5) (ret := some .int) (own := RL) (by decide +kernel) rfl rfl hI hst (Nat.le_of_ble_eq_true rfl) (fun G C hQ => ?_)
  show zV h ad zLX 5 G s 0 [(0, .ref (ad 0)), (1, .int (1 : Int32)), (2, .int v2), (3, .int v3)] []
  refine z_iload_n C dL_act_0 rfl 1 rfl ?_
  refine z_if_ne (tgt := 13) C dL_act_1 (by decide) (fun _ => ?_) (fun c => absurd c (by decide))
  refine z_iload_n C dL_act_13 rfl 1 rfl ?_
  refine z_iconst (v := (1 : Int32)) C dL_act_14 (by decide) ?_
  refine z_icmp_ne (tgt := 26) C dL_act_15 (by decide) (fun c => absurd (by decide) c) (fun _ => ?_)
  refine z_aload_n C dL_act_18 rfl 0 rfl ?_
  refine z_iload_n C dL_act_19 rfl 2 rfl ?_
  exact z_hv (ex := 1) (vd := false) (Cn := RX7) (k := 0) C 1 [.int v2] [] (c_X7_kindOf (zC_I C) (zC_st C) hm) hQ gL_act_X7_kindOf (by decide +kernel) kX0 vc7 rfl rfl dL_act_20 rfl ⟨Nat.le_of_ble_eq_true rfl, Nat.le_of_ble_eq_true rfl⟩ rfl (Nat.le_of_ble_eq_true rfl) [] ⟨0, 223, 224, 13⟩ [⟨0, 223, 229, 15⟩, ⟨0, 223, 234, 17⟩] rfl (fun z hz => absurd hz List.not_mem_nil) (by decide) (by decide) eL_act_k13 dL_act_224 (by decide) (by decide) dL_act_226 dL_act_228 rfl rfl
set_option maxRecDepth 100000 in
set_option maxHeartbeats 4000000 in
theorem cL_act_value_v {h : zH} {ad : Nat → Nat} (hI : zI ad zLX.length) (hst : h.1.stackTraces = false) {n : Nat} {v2 : Int32} {v3 : Int32} {r : Int32} {s s9 : zS} (hm : m_X7_value n v2 s = some (.inl r, s9)) : zMH h ad zLX yL_act wsL_act 9 186 [.ref (ad 0), .int (2 : Int32), .int v2, .int v3] s r s9 := by
  refine z_startH (hh := [(0, 223, 224, 13), (0, 223, 229, 15), (0, 223, 234, 17)]) (cc := cL_act) (nL := 5) (ret := some .int) (own := RL) (by decide +kernel) rfl rfl hI hst (Nat.le_of_ble_eq_true rfl) (fun G C hQ => ?_)
  show zV h ad zLX 5 G s 0 [(0, .ref (ad 0)), (1, .int (2 : Int32)), (2, .int v2), (3, .int v3)] []
  refine z_iload_n C dL_act_0 rfl 1 rfl ?_
  refine z_if_ne (tgt := 13) C dL_act_1 (by decide) (fun _ => ?_) (fun c => absurd c (by decide))
  refine z_iload_n C dL_act_13 rfl 1 rfl ?_
  refine z_iconst (v := (1 : Int32)) C dL_act_14 (by decide) ?_
  refine z_icmp_ne (tgt := 26) C dL_act_15 (by decide) (fun _ => ?_) (fun c => absurd c (by decide))
  refine z_iload_n C dL_act_26 rfl 1 rfl ?_
  refine z_iconst (v := (2 : Int32)) C dL_act_27 (by decide) ?_
  refine z_icmp_ne (tgt := 39) C dL_act_28 (by decide) (fun c => absurd (by decide) c) (fun _ => ?_)
  refine z_aload_n C dL_act_31 rfl 0 rfl ?_
  refine z_iload_n C dL_act_32 rfl 2 rfl ?_
  refine z_cV (vd := false) (Cn := RX7) (k := 0) C 1 [.int v2] [] (c_X7_value (zC_I C) (zC_st C) hm) gL_act_X7_value (by decide +kernel) kX0 vc7 rfl rfl dL_act_33 rfl ⟨Nat.le_of_ble_eq_true rfl, Nat.le_of_ble_eq_true rfl⟩ rfl (Nat.le_of_ble_eq_true rfl) ?_
  refine z_goto (tgt := 223) C dL_act_36 (by decide) ?_
  exact z_hret C hQ rfl rfl dL_act_223
set_option maxRecDepth 100000 in
set_option maxHeartbeats 4000000 in
theorem cL_act_value_x1 {h : zH} {ad : Nat → Nat} (hI : zI ad zLX.length) (hst : h.1.stackTraces = false) {n : Nat} {v2 : Int32} {v3 : Int32} {s s9 : zS} (hm : m_X7_value n v2 s = some (.inr 1, s9)) : zMH h ad zLX yL_act wsL_act 9 186 [.ref (ad 0), .int (2 : Int32), .int v2, .int v3] s (-71 : Int32) s9 := by
  refine z_startH (hh := [(0, 223, 224, 13), (0, 223, 229, 15), (0, 223, 234, 17)]) (cc := cL_act) (nL := 5) (ret := some .int) (own := RL) (by decide +kernel) rfl rfl hI hst (Nat.le_of_ble_eq_true rfl) (fun G C hQ => ?_)
  show zV h ad zLX 5 G s 0 [(0, .ref (ad 0)), (1, .int (2 : Int32)), (2, .int v2), (3, .int v3)] []
  refine z_iload_n C dL_act_0 rfl 1 rfl ?_
  refine z_if_ne (tgt := 13) C dL_act_1 (by decide) (fun _ => ?_) (fun c => absurd c (by decide))
  refine z_iload_n C dL_act_13 rfl 1 rfl ?_
  refine z_iconst (v := (1 : Int32)) C dL_act_14 (by decide) ?_
  refine z_icmp_ne (tgt := 26) C dL_act_15 (by decide) (fun _ => ?_) (fun c => absurd c (by decide))
  refine z_iload_n C dL_act_26 rfl 1 rfl ?_
  refine z_iconst (v := (2 : Int32)) C dL_act_27 (by decide) ?_
  refine z_icmp_ne (tgt := 39) C dL_act_28 (by decide) (fun c => absurd (by decide) c) (fun _ => ?_)
  refine z_aload_n C dL_act_31 rfl 0 rfl ?_
  refine z_iload_n C dL_act_32 rfl 2 rfl ?_
  exact z_hv (ex := 1) (vd := false) (Cn := RX7) (k := 0) C 1 [.int v2] [] (c_X7_value (zC_I C) (zC_st C) hm) hQ gL_act_X7_value (by decide +kernel) kX0 vc7 rfl rfl dL_act_33 rfl ⟨Nat.le_of_ble_eq_true rfl, Nat.le_of_ble_eq_true rfl⟩ rfl (Nat.le_of_ble_eq_true rfl) [] ⟨0, 223, 224, 13⟩ [⟨0, 223, 229, 15⟩, ⟨0, 223, 234, 17⟩] rfl (fun z hz => absurd hz List.not_mem_nil) (by decide) (by decide) eL_act_k13 dL_act_224 (by decide) (by decide) dL_act_226 dL_act_228 rfl rfl
set_option maxRecDepth 100000 in
set_option maxHeartbeats 4000000 in
theorem cL_act_boundFor_v {h : zH} {ad : Nat → Nat} (hI : zI ad zLX.length) (hst : h.1.stackTraces = false) {n : Nat} {v2 : Int32} {v3 : Int32} {r : Int32} {s s9 : zS} (hm : m_X7_boundFor n v2 v3 s = some (.inl r, s9)) : zMH h ad zLX yL_act wsL_act 9 186 [.ref (ad 0), .int (3 : Int32), .int v2, .int v3] s r s9 := by
  refine z_startH (hh := [(0, 223, 224, 13), (0, 223, 229, 15), (0, 223, 234, 17)]) (cc := cL_act) (nL := 5) (ret := some .int) (own := RL) (by decide +kernel) rfl rfl hI hst (Nat.le_of_ble_eq_true rfl) (fun G C hQ => ?_)
  show zV h ad zLX 5 G s 0 [(0, .ref (ad 0)), (1, .int (3 : Int32)), (2, .int v2), (3, .int v3)] []
  refine z_iload_n C dL_act_0 rfl 1 rfl ?_
  refine z_if_ne (tgt := 13) C dL_act_1 (by decide) (fun _ => ?_) (fun c => absurd c (by decide))
  refine z_iload_n C dL_act_13 rfl 1 rfl ?_
  refine z_iconst (v := (1 : Int32)) C dL_act_14 (by decide) ?_
  refine z_icmp_ne (tgt := 26) C dL_act_15 (by decide) (fun _ => ?_) (fun c => absurd c (by decide))
  refine z_iload_n C dL_act_26 rfl 1 rfl ?_
  refine z_iconst (v := (2 : Int32)) C dL_act_27 (by decide) ?_
  refine z_icmp_ne (tgt := 39) C dL_act_28 (by decide) (fun _ => ?_) (fun c => absurd c (by decide))
  refine z_iload_n C dL_act_39 rfl 1 rfl ?_
  refine z_iconst (v := (3 : Int32)) C dL_act_40 (by decide) ?_
  refine z_icmp_ne (tgt := 53) C dL_act_41 (by decide) (fun c => absurd (by decide) c) (fun _ => ?_)
  refine z_aload_n C dL_act_44 rfl 0 rfl ?_
  refine z_iload_n C dL_act_45 rfl 2 rfl ?_
  refine z_iload_n C dL_act_46 rfl 3 rfl ?_
  refine z_cV (vd := false) (Cn := RX7) (k := 0) C 2 [.int v2, .int v3] [] (c_X7_boundFor (zC_I C) (zC_st C) hm) gL_act_X7_boundFor (by decide +kernel) kX0 vc7 rfl rfl dL_act_47 rfl ⟨Nat.le_of_ble_eq_true rfl, Nat.le_of_ble_eq_true rfl⟩ rfl (Nat.le_of_ble_eq_true rfl) ?_
  refine z_goto (tgt := 223) C dL_act_50 (by decide) ?_
  exact z_hret C hQ rfl rfl dL_act_223
set_option maxRecDepth 100000 in
set_option maxHeartbeats 4000000 in
theorem cL_act_boundFor_x1 {h : zH} {ad : Nat → Nat} (hI : zI ad zLX.length) (hst : h.1.stackTraces = false) {n : Nat} {v2 : Int32} {v3 : Int32} {s s9 : zS} (hm : m_X7_boundFor n v2 v3 s = some (.inr 1, s9)) : zMH h ad zLX yL_act wsL_act 9 186 [.ref (ad 0), .int (3 : Int32), .int v2, .int v3] s (-71 : Int32) s9 := by
  refine z_startH (hh := [(0, 223, 224, 13), (0, 223, 229, 15), (0, 223, 234, 17)]) (cc := cL_act) (nL := 5) (ret := some .int) (own := RL) (by decide +kernel) rfl rfl hI hst (Nat.le_of_ble_eq_true rfl) (fun G C hQ => ?_)
  show zV h ad zLX 5 G s 0 [(0, .ref (ad 0)), (1, .int (3 : Int32)), (2, .int v2), (3, .int v3)] []
  refine z_iload_n C dL_act_0 rfl 1 rfl ?_
  refine z_if_ne (tgt := 13) C dL_act_1 (by decide) (fun _ => ?_) (fun c => absurd c (by decide))
  refine z_iload_n C dL_act_13 rfl 1 rfl ?_
  refine z_iconst (v := (1 : Int32)) C dL_act_14 (by decide) ?_
  refine z_icmp_ne (tgt := 26) C dL_act_15 (by decide) (fun _ => ?_) (fun c => absurd c (by decide))
  refine z_iload_n C dL_act_26 rfl 1 rfl ?_
  refine z_iconst (v := (2 : Int32)) C dL_act_27 (by decide) ?_
  refine z_icmp_ne (tgt := 39) C dL_act_28 (by decide) (fun _ => ?_) (fun c => absurd c (by decide))
  refine z_iload_n C dL_act_39 rfl 1 rfl ?_
  refine z_iconst (v := (3 : Int32)) C dL_act_40 (by decide) ?_
  refine z_icmp_ne (tgt := 53) C dL_act_41 (by decide) (fun c => absurd (by decide) c) (fun _ => ?_)
  refine z_aload_n C dL_act_44 rfl 0 rfl ?_
  refine z_iload_n C dL_act_45 rfl 2 rfl ?_
  refine z_iload_n C dL_act_46 rfl 3 rfl ?_
  exact z_hv (ex := 1) (vd := false) (Cn := RX7) (k := 0) C 2 [.int v2, .int v3] [] (c_X7_boundFor (zC_I C) (zC_st C) hm) hQ gL_act_X7_boundFor (by decide +kernel) kX0 vc7 rfl rfl dL_act_47 rfl ⟨Nat.le_of_ble_eq_true rfl, Nat.le_of_ble_eq_true rfl⟩ rfl (Nat.le_of_ble_eq_true rfl) [] ⟨0, 223, 224, 13⟩ [⟨0, 223, 229, 15⟩, ⟨0, 223, 234, 17⟩] rfl (fun z hz => absurd hz List.not_mem_nil) (by decide) (by decide) eL_act_k13 dL_act_224 (by decide) (by decide) dL_act_226 dL_act_228 rfl rfl
set_option maxRecDepth 100000 in
set_option maxHeartbeats 4000000 in
theorem cL_act_boundFor_x2 {h : zH} {ad : Nat → Nat} (hI : zI ad zLX.length) (hst : h.1.stackTraces = false) {n : Nat} {v2 : Int32} {v3 : Int32} {s s9 : zS} (hm : m_X7_boundFor n v2 v3 s = some (.inr 2, s9)) : zMH h ad zLX yL_act wsL_act 9 186 [.ref (ad 0), .int (3 : Int32), .int v2, .int v3] s (-72 : Int32) s9 := by
  refine z_startH (hh := [(0, 223, 224, 13), (0, 223, 229, 15), (0, 223, 234, 17)]) (cc := cL_act) (nL := 5) (ret := some .int) (own := RL) (by decide +kernel) rfl rfl hI hst (Nat.le_of_ble_eq_true rfl) (fun G C hQ => ?_)
  show zV h ad zLX 5 G s 0 [(0, .ref (ad 0)), (1, .int (3 : Int32)), (2, .int v2), (3, .int v3)] []
  refine z_iload_n C dL_act_0 rfl 1 rfl ?_
  refine z_if_ne (tgt := 13) C dL_act_1 (by decide) (fun _ => ?_) (fun c => absurd c (by decide))
  refine z_iload_n C dL_act_13 rfl 1 rfl ?_
  refine z_iconst (v := (1 : Int32)) C dL_act_14 (by decide) ?_
  refine z_icmp_ne (tgt := 26) C dL_act_15 (by decide) (fun _ => ?_) (fun c => absurd c (by decide))
  refine z_iload_n C dL_act_26 rfl 1 rfl ?_
  refine z_iconst (v := (2 : Int32)) C dL_act_27 (by decide) ?_
  refine z_icmp_ne (tgt := 39) C dL_act_28 (by decide) (fun _ => ?_) (fun c => absurd c (by decide))
  refine z_iload_n C dL_act_39 rfl 1 rfl ?_
  refine z_iconst (v := (3 : Int32)) C dL_act_40 (by decide) ?_
  refine z_icmp_ne (tgt := 53) C dL_act_41 (by decide) (fun c => absurd (by decide) c) (fun _ => ?_)
  refine z_aload_n C dL_act_44 rfl 0 rfl ?_
  refine z_iload_n C dL_act_45 rfl 2 rfl ?_
  refine z_iload_n C dL_act_46 rfl 3 rfl ?_
  exact z_hv (ex := 2) (vd := false) (Cn := RX7) (k := 0) C 2 [.int v2, .int v3] [] (c_X7_boundFor (zC_I C) (zC_st C) hm) hQ gL_act_X7_boundFor (by decide +kernel) kX0 vc7 rfl rfl dL_act_47 rfl ⟨Nat.le_of_ble_eq_true rfl, Nat.le_of_ble_eq_true rfl⟩ rfl (Nat.le_of_ble_eq_true rfl) [⟨0, 223, 224, 13⟩] ⟨0, 223, 229, 15⟩ [⟨0, 223, 234, 17⟩] rfl (by intro z hz; simp only [List.mem_cons, List.not_mem_nil, or_false] at hz; subst hz; exact ⟨by decide, 1, eL_act_k13, by decide⟩) (by decide) (by decide) eL_act_k15 dL_act_229 (by decide) (by decide) dL_act_231 dL_act_233 rfl rfl
set_option maxRecDepth 100000 in
set_option maxHeartbeats 4000000 in
theorem cL_act_boundFor_x3 {h : zH} {ad : Nat → Nat} (hI : zI ad zLX.length) (hst : h.1.stackTraces = false) {n : Nat} {v2 : Int32} {v3 : Int32} {s s9 : zS} (hm : m_X7_boundFor n v2 v3 s = some (.inr 3, s9)) : zMH h ad zLX yL_act wsL_act 9 186 [.ref (ad 0), .int (3 : Int32), .int v2, .int v3] s (-73 : Int32) s9 := by
  refine z_startH (hh := [(0, 223, 224, 13), (0, 223, 229, 15), (0, 223, 234, 17)]) (cc := cL_act) (nL := 5) (ret := some .int) (own := RL) (by decide +kernel) rfl rfl hI hst (Nat.le_of_ble_eq_true rfl) (fun G C hQ => ?_)
  show zV h ad zLX 5 G s 0 [(0, .ref (ad 0)), (1, .int (3 : Int32)), (2, .int v2), (3, .int v3)] []
  refine z_iload_n C dL_act_0 rfl 1 rfl ?_
  refine z_if_ne (tgt := 13) C dL_act_1 (by decide) (fun _ => ?_) (fun c => absurd c (by decide))
  refine z_iload_n C dL_act_13 rfl 1 rfl ?_
  refine z_iconst (v := (1 : Int32)) C dL_act_14 (by decide) ?_
  refine z_icmp_ne (tgt := 26) C dL_act_15 (by decide) (fun _ => ?_) (fun c => absurd c (by decide))
  refine z_iload_n C dL_act_26 rfl 1 rfl ?_
  refine z_iconst (v := (2 : Int32)) C dL_act_27 (by decide) ?_
  refine z_icmp_ne (tgt := 39) C dL_act_28 (by decide) (fun _ => ?_) (fun c => absurd c (by decide))
  refine z_iload_n C dL_act_39 rfl 1 rfl ?_
  refine z_iconst (v := (3 : Int32)) C dL_act_40 (by decide) ?_
  refine z_icmp_ne (tgt := 53) C dL_act_41 (by decide) (fun c => absurd (by decide) c) (fun _ => ?_)
  refine z_aload_n C dL_act_44 rfl 0 rfl ?_
  refine z_iload_n C dL_act_45 rfl 2 rfl ?_
  refine z_iload_n C dL_act_46 rfl 3 rfl ?_
  exact z_hv (ex := 3) (vd := false) (Cn := RX7) (k := 0) C 2 [.int v2, .int v3] [] (c_X7_boundFor (zC_I C) (zC_st C) hm) hQ gL_act_X7_boundFor (by decide +kernel) kX0 vc7 rfl rfl dL_act_47 rfl ⟨Nat.le_of_ble_eq_true rfl, Nat.le_of_ble_eq_true rfl⟩ rfl (Nat.le_of_ble_eq_true rfl) [⟨0, 223, 224, 13⟩, ⟨0, 223, 229, 15⟩] ⟨0, 223, 234, 17⟩ [] rfl (by intro z hz; simp only [List.mem_cons, List.not_mem_nil, or_false] at hz; rcases hz with rfl | rfl; exact ⟨by decide, 1, eL_act_k13, by decide⟩; exact ⟨by decide, 2, eL_act_k15, by decide⟩) (by decide) (by decide) eL_act_k17 dL_act_234 (by decide) (by decide) dL_act_236 dL_act_238 rfl rfl
set_option maxRecDepth 100000 in
set_option maxHeartbeats 4000000 in
theorem cL_act_dependsOn_v {h : zH} {ad : Nat → Nat} (hI : zI ad zLX.length) (hst : h.1.stackTraces = false) {n : Nat} {v2 : Int32} {v3 : Int32} {r : Int32} (hr : r = 0 ∨ r = 1) {s s9 : zS} (hm : m_X7_dependsOn n v2 v3 s = some (.inl r, s9)) : zMH h ad zLX yL_act wsL_act 9 186 [.ref (ad 0), .int (4 : Int32), .int v2, .int v3] s r s9 := by
  refine z_startH (hh := [(0, 223, 224, 13), (0, 223, 229, 15), (0, 223, 234, 17)]) (cc := cL_act) (nL := 5) (ret := some .int) (own := RL) (by decide +kernel) rfl rfl hI hst (Nat.le_of_ble_eq_true rfl) (fun G C hQ => ?_)
  show zV h ad zLX 5 G s 0 [(0, .ref (ad 0)), (1, .int (4 : Int32)), (2, .int v2), (3, .int v3)] []
  refine z_iload_n C dL_act_0 rfl 1 rfl ?_
  refine z_if_ne (tgt := 13) C dL_act_1 (by decide) (fun _ => ?_) (fun c => absurd c (by decide))
  refine z_iload_n C dL_act_13 rfl 1 rfl ?_
  refine z_iconst (v := (1 : Int32)) C dL_act_14 (by decide) ?_
  refine z_icmp_ne (tgt := 26) C dL_act_15 (by decide) (fun _ => ?_) (fun c => absurd c (by decide))
  refine z_iload_n C dL_act_26 rfl 1 rfl ?_
  refine z_iconst (v := (2 : Int32)) C dL_act_27 (by decide) ?_
  refine z_icmp_ne (tgt := 39) C dL_act_28 (by decide) (fun _ => ?_) (fun c => absurd c (by decide))
  refine z_iload_n C dL_act_39 rfl 1 rfl ?_
  refine z_iconst (v := (3 : Int32)) C dL_act_40 (by decide) ?_
  refine z_icmp_ne (tgt := 53) C dL_act_41 (by decide) (fun _ => ?_) (fun c => absurd c (by decide))
  refine z_iload_n C dL_act_53 rfl 1 rfl ?_
  refine z_iconst (v := (4 : Int32)) C dL_act_54 (by decide) ?_
  refine z_icmp_ne (tgt := 75) C dL_act_55 (by decide) (fun c => absurd (by decide) c) (fun _ => ?_)
  refine z_aload_n C dL_act_58 rfl 0 rfl ?_
  refine z_iload_n C dL_act_59 rfl 2 rfl ?_
  refine z_iload_n C dL_act_60 rfl 3 rfl ?_
  refine z_cV (vd := false) (Cn := RX7) (k := 0) C 2 [.int v2, .int v3] [] (c_X7_dependsOn (zC_I C) (zC_st C) hm) gL_act_X7_dependsOn (by decide +kernel) kX0 vc7 rfl rfl dL_act_61 rfl ⟨Nat.le_of_ble_eq_true rfl, Nat.le_of_ble_eq_true rfl⟩ rfl (Nat.le_of_ble_eq_true rfl) ?_
  refine z_if_eq (tgt := 71) C dL_act_64 (by decide) (fun c => ?_) (fun c => ?_)
  · refine z_iconst (v := (0 : Int32)) C dL_act_71 (by decide) ?_
    refine z_goto (tgt := 223) C dL_act_72 (by decide) ?_
    exact z_hret C hQ (by rcases hr with rfl | rfl; rfl; exact absurd c (by decide)) rfl dL_act_223
  · refine z_iconst (v := (1 : Int32)) C dL_act_67 (by decide) ?_
    refine z_goto (tgt := 223) C dL_act_68 (by decide) ?_
    exact z_hret C hQ (by rcases hr with rfl | rfl; exact absurd rfl c; rfl) rfl dL_act_223
set_option maxRecDepth 100000 in
set_option maxHeartbeats 4000000 in
theorem cL_act_dependsOn_x1 {h : zH} {ad : Nat → Nat} (hI : zI ad zLX.length) (hst : h.1.stackTraces = false) {n : Nat} {v2 : Int32} {v3 : Int32} {s s9 : zS} (hm : m_X7_dependsOn n v2 v3 s = some (.inr 1, s9)) : zMH h ad zLX yL_act wsL_act 9 186 [.ref (ad 0), .int (4 : Int32), .int v2, .int v3] s (-71 : Int32) s9 := by
  refine z_startH (hh := [(0, 223, 224, 13), (0, 223, 229, 15), (0, 223, 234, 17)]) (cc := cL_act) (nL := 5) (ret := some .int) (own := RL) (by decide +kernel) rfl rfl hI hst (Nat.le_of_ble_eq_true rfl) (fun G C hQ => ?_)
  show zV h ad zLX 5 G s 0 [(0, .ref (ad 0)), (1, .int (4 : Int32)), (2, .int v2), (3, .int v3)] []
  refine z_iload_n C dL_act_0 rfl 1 rfl ?_
  refine z_if_ne (tgt := 13) C dL_act_1 (by decide) (fun _ => ?_) (fun c => absurd c (by decide))
  refine z_iload_n C dL_act_13 rfl 1 rfl ?_
  refine z_iconst (v := (1 : Int32)) C dL_act_14 (by decide) ?_
  refine z_icmp_ne (tgt := 26) C dL_act_15 (by decide) (fun _ => ?_) (fun c => absurd c (by decide))
  refine z_iload_n C dL_act_26 rfl 1 rfl ?_
  refine z_iconst (v := (2 : Int32)) C dL_act_27 (by decide) ?_
  refine z_icmp_ne (tgt := 39) C dL_act_28 (by decide) (fun _ => ?_) (fun c => absurd c (by decide))
  refine z_iload_n C dL_act_39 rfl 1 rfl ?_
  refine z_iconst (v := (3 : Int32)) C dL_act_40 (by decide) ?_
  refine z_icmp_ne (tgt := 53) C dL_act_41 (by decide) (fun _ => ?_) (fun c => absurd c (by decide))
  refine z_iload_n C dL_act_53 rfl 1 rfl ?_
  refine z_iconst (v := (4 : Int32)) C dL_act_54 (by decide) ?_
  refine z_icmp_ne (tgt := 75) C dL_act_55 (by decide) (fun c => absurd (by decide) c) (fun _ => ?_)
  refine z_aload_n C dL_act_58 rfl 0 rfl ?_
  refine z_iload_n C dL_act_59 rfl 2 rfl ?_
  refine z_iload_n C dL_act_60 rfl 3 rfl ?_
  exact z_hv (ex := 1) (vd := false) (Cn := RX7) (k := 0) C 2 [.int v2, .int v3] [] (c_X7_dependsOn (zC_I C) (zC_st C) hm) hQ gL_act_X7_dependsOn (by decide +kernel) kX0 vc7 rfl rfl dL_act_61 rfl ⟨Nat.le_of_ble_eq_true rfl, Nat.le_of_ble_eq_true rfl⟩ rfl (Nat.le_of_ble_eq_true rfl) [] ⟨0, 223, 224, 13⟩ [⟨0, 223, 229, 15⟩, ⟨0, 223, 234, 17⟩] rfl (fun z hz => absurd hz List.not_mem_nil) (by decide) (by decide) eL_act_k13 dL_act_224 (by decide) (by decide) dL_act_226 dL_act_228 rfl rfl
set_option maxRecDepth 100000 in
set_option maxHeartbeats 4000000 in
theorem cL_act_influence_v {h : zH} {ad : Nat → Nat} (hI : zI ad zLX.length) (hst : h.1.stackTraces = false) {n : Nat} {v2 : Int32} {v3 : Int32} {r : Int32} {s s9 : zS} (hm : m_X7_influence n v2 s = some (.inl r, s9)) : zMH h ad zLX yL_act wsL_act 9 186 [.ref (ad 0), .int (5 : Int32), .int v2, .int v3] s r s9 := by
  refine z_startH (hh := [(0, 223, 224, 13), (0, 223, 229, 15), (0, 223, 234, 17)]) (cc := cL_act) (nL := 5) (ret := some .int) (own := RL) (by decide +kernel) rfl rfl hI hst (Nat.le_of_ble_eq_true rfl) (fun G C hQ => ?_)
  show zV h ad zLX 5 G s 0 [(0, .ref (ad 0)), (1, .int (5 : Int32)), (2, .int v2), (3, .int v3)] []
  refine z_iload_n C dL_act_0 rfl 1 rfl ?_
  refine z_if_ne (tgt := 13) C dL_act_1 (by decide) (fun _ => ?_) (fun c => absurd c (by decide))
  refine z_iload_n C dL_act_13 rfl 1 rfl ?_
  refine z_iconst (v := (1 : Int32)) C dL_act_14 (by decide) ?_
  refine z_icmp_ne (tgt := 26) C dL_act_15 (by decide) (fun _ => ?_) (fun c => absurd c (by decide))
  refine z_iload_n C dL_act_26 rfl 1 rfl ?_
  refine z_iconst (v := (2 : Int32)) C dL_act_27 (by decide) ?_
  refine z_icmp_ne (tgt := 39) C dL_act_28 (by decide) (fun _ => ?_) (fun c => absurd c (by decide))
  refine z_iload_n C dL_act_39 rfl 1 rfl ?_
  refine z_iconst (v := (3 : Int32)) C dL_act_40 (by decide) ?_
  refine z_icmp_ne (tgt := 53) C dL_act_41 (by decide) (fun _ => ?_) (fun c => absurd c (by decide))
  refine z_iload_n C dL_act_53 rfl 1 rfl ?_
  refine z_iconst (v := (4 : Int32)) C dL_act_54 (by decide) ?_
  refine z_icmp_ne (tgt := 75) C dL_act_55 (by decide) (fun _ => ?_) (fun c => absurd c (by decide))
  refine z_iload_n C dL_act_75 rfl 1 rfl ?_
  refine z_iconst (v := (5 : Int32)) C dL_act_76 (by decide) ?_
  refine z_icmp_ne (tgt := 88) C dL_act_77 (by decide) (fun c => absurd (by decide) c) (fun _ => ?_)
  refine z_aload_n C dL_act_80 rfl 0 rfl ?_
  refine z_iload_n C dL_act_81 rfl 2 rfl ?_
  refine z_cV (vd := false) (Cn := RX7) (k := 0) C 1 [.int v2] [] (c_X7_influence (zC_I C) (zC_st C) hm) gL_act_X7_influence (by decide +kernel) kX0 vc7 rfl rfl dL_act_82 rfl ⟨Nat.le_of_ble_eq_true rfl, Nat.le_of_ble_eq_true rfl⟩ rfl (Nat.le_of_ble_eq_true rfl) ?_
  refine z_goto (tgt := 223) C dL_act_85 (by decide) ?_
  exact z_hret C hQ rfl rfl dL_act_223
set_option maxRecDepth 100000 in
set_option maxHeartbeats 4000000 in
theorem cL_act_influence_x1 {h : zH} {ad : Nat → Nat} (hI : zI ad zLX.length) (hst : h.1.stackTraces = false) {n : Nat} {v2 : Int32} {v3 : Int32} {s s9 : zS} (hm : m_X7_influence n v2 s = some (.inr 1, s9)) : zMH h ad zLX yL_act wsL_act 9 186 [.ref (ad 0), .int (5 : Int32), .int v2, .int v3] s (-71 : Int32) s9 := by
  refine z_startH (hh := [(0, 223, 224, 13), (0, 223, 229, 15), (0, 223, 234, 17)]) (cc := cL_act) (nL := 5) (ret := some .int) (own := RL) (by decide +kernel) rfl rfl hI hst (Nat.le_of_ble_eq_true rfl) (fun G C hQ => ?_)
  show zV h ad zLX 5 G s 0 [(0, .ref (ad 0)), (1, .int (5 : Int32)), (2, .int v2), (3, .int v3)] []
  refine z_iload_n C dL_act_0 rfl 1 rfl ?_
  refine z_if_ne (tgt := 13) C dL_act_1 (by decide) (fun _ => ?_) (fun c => absurd c (by decide))
  refine z_iload_n C dL_act_13 rfl 1 rfl ?_
  refine z_iconst (v := (1 : Int32)) C dL_act_14 (by decide) ?_
  refine z_icmp_ne (tgt := 26) C dL_act_15 (by decide) (fun _ => ?_) (fun c => absurd c (by decide))
  refine z_iload_n C dL_act_26 rfl 1 rfl ?_
  refine z_iconst (v := (2 : Int32)) C dL_act_27 (by decide) ?_
  refine z_icmp_ne (tgt := 39) C dL_act_28 (by decide) (fun _ => ?_) (fun c => absurd c (by decide))
  refine z_iload_n C dL_act_39 rfl 1 rfl ?_
  refine z_iconst (v := (3 : Int32)) C dL_act_40 (by decide) ?_
  refine z_icmp_ne (tgt := 53) C dL_act_41 (by decide) (fun _ => ?_) (fun c => absurd c (by decide))
  refine z_iload_n C dL_act_53 rfl 1 rfl ?_
  refine z_iconst (v := (4 : Int32)) C dL_act_54 (by decide) ?_
  refine z_icmp_ne (tgt := 75) C dL_act_55 (by decide) (fun _ => ?_) (fun c => absurd c (by decide))
  refine z_iload_n C dL_act_75 rfl 1 rfl ?_
  refine z_iconst (v := (5 : Int32)) C dL_act_76 (by decide) ?_
  refine z_icmp_ne (tgt := 88) C dL_act_77 (by decide) (fun c => absurd (by decide) c) (fun _ => ?_)
  refine z_aload_n C dL_act_80 rfl 0 rfl ?_
  refine z_iload_n C dL_act_81 rfl 2 rfl ?_
  exact z_hv (ex := 1) (vd := false) (Cn := RX7) (k := 0) C 1 [.int v2] [] (c_X7_influence (zC_I C) (zC_st C) hm) hQ gL_act_X7_influence (by decide +kernel) kX0 vc7 rfl rfl dL_act_82 rfl ⟨Nat.le_of_ble_eq_true rfl, Nat.le_of_ble_eq_true rfl⟩ rfl (Nat.le_of_ble_eq_true rfl) [] ⟨0, 223, 224, 13⟩ [⟨0, 223, 229, 15⟩, ⟨0, 223, 234, 17⟩] rfl (fun z hz => absurd hz List.not_mem_nil) (by decide) (by decide) eL_act_k13 dL_act_224 (by decide) (by decide) dL_act_226 dL_act_228 rfl rfl
set_option maxRecDepth 100000 in
set_option maxHeartbeats 4000000 in
theorem cL_act_why_v {h : zH} {ad : Nat → Nat} (hI : zI ad zLX.length) (hst : h.1.stackTraces = false) {n : Nat} {v2 : Int32} {v3 : Int32} {r : Int32} {s s9 : zS} (hm : m_X7_why n v2 v3 s = some (.inl r, s9)) : zMH h ad zLX yL_act wsL_act 9 186 [.ref (ad 0), .int (6 : Int32), .int v2, .int v3] s r s9 := by
  refine z_startH (hh := [(0, 223, 224, 13), (0, 223, 229, 15), (0, 223, 234, 17)]) (cc := cL_act) (nL := 5) (ret := some .int) (own := RL) (by decide +kernel) rfl rfl hI hst (Nat.le_of_ble_eq_true rfl) (fun G C hQ => ?_)
  show zV h ad zLX 5 G s 0 [(0, .ref (ad 0)), (1, .int (6 : Int32)), (2, .int v2), (3, .int v3)] []
  refine z_iload_n C dL_act_0 rfl 1 rfl ?_
  refine z_if_ne (tgt := 13) C dL_act_1 (by decide) (fun _ => ?_) (fun c => absurd c (by decide))
  refine z_iload_n C dL_act_13 rfl 1 rfl ?_
  refine z_iconst (v := (1 : Int32)) C dL_act_14 (by decide) ?_
  refine z_icmp_ne (tgt := 26) C dL_act_15 (by decide) (fun _ => ?_) (fun c => absurd c (by decide))
  refine z_iload_n C dL_act_26 rfl 1 rfl ?_
  refine z_iconst (v := (2 : Int32)) C dL_act_27 (by decide) ?_
  refine z_icmp_ne (tgt := 39) C dL_act_28 (by decide) (fun _ => ?_) (fun c => absurd c (by decide))
  refine z_iload_n C dL_act_39 rfl 1 rfl ?_
  refine z_iconst (v := (3 : Int32)) C dL_act_40 (by decide) ?_
  refine z_icmp_ne (tgt := 53) C dL_act_41 (by decide) (fun _ => ?_) (fun c => absurd c (by decide))
  refine z_iload_n C dL_act_53 rfl 1 rfl ?_
  refine z_iconst (v := (4 : Int32)) C dL_act_54 (by decide) ?_
  refine z_icmp_ne (tgt := 75) C dL_act_55 (by decide) (fun _ => ?_) (fun c => absurd c (by decide))
  refine z_iload_n C dL_act_75 rfl 1 rfl ?_
  refine z_iconst (v := (5 : Int32)) C dL_act_76 (by decide) ?_
  refine z_icmp_ne (tgt := 88) C dL_act_77 (by decide) (fun _ => ?_) (fun c => absurd c (by decide))
  refine z_iload_n C dL_act_88 rfl 1 rfl ?_
  refine z_bipush (v := (6 : Int32)) C dL_act_89 (by decide) ?_
  refine z_icmp_ne (tgt := 103) C dL_act_91 (by decide) (fun c => absurd (by decide) c) (fun _ => ?_)
  refine z_aload_n C dL_act_94 rfl 0 rfl ?_
  refine z_iload_n C dL_act_95 rfl 2 rfl ?_
  refine z_iload_n C dL_act_96 rfl 3 rfl ?_
  refine z_cV (vd := false) (Cn := RX7) (k := 0) C 2 [.int v2, .int v3] [] (c_X7_why (zC_I C) (zC_st C) hm) gL_act_X7_why (by decide +kernel) kX0 vc7 rfl rfl dL_act_97 rfl ⟨Nat.le_of_ble_eq_true rfl, Nat.le_of_ble_eq_true rfl⟩ rfl (Nat.le_of_ble_eq_true rfl) ?_
  refine z_goto (tgt := 223) C dL_act_100 (by decide) ?_
  exact z_hret C hQ rfl rfl dL_act_223
set_option maxRecDepth 100000 in
set_option maxHeartbeats 4000000 in
theorem cL_act_why_x1 {h : zH} {ad : Nat → Nat} (hI : zI ad zLX.length) (hst : h.1.stackTraces = false) {n : Nat} {v2 : Int32} {v3 : Int32} {s s9 : zS} (hm : m_X7_why n v2 v3 s = some (.inr 1, s9)) : zMH h ad zLX yL_act wsL_act 9 186 [.ref (ad 0), .int (6 : Int32), .int v2, .int v3] s (-71 : Int32) s9 := by
  refine z_startH (hh := [(0, 223, 224, 13), (0, 223, 229, 15), (0, 223, 234, 17)]) (cc := cL_act) (nL := 5) (ret := some .int) (own := RL) (by decide +kernel) rfl rfl hI hst (Nat.le_of_ble_eq_true rfl) (fun G C hQ => ?_)
  show zV h ad zLX 5 G s 0 [(0, .ref (ad 0)), (1, .int (6 : Int32)), (2, .int v2), (3, .int v3)] []
  refine z_iload_n C dL_act_0 rfl 1 rfl ?_
  refine z_if_ne (tgt := 13) C dL_act_1 (by decide) (fun _ => ?_) (fun c => absurd c (by decide))
  refine z_iload_n C dL_act_13 rfl 1 rfl ?_
  refine z_iconst (v := (1 : Int32)) C dL_act_14 (by decide) ?_
  refine z_icmp_ne (tgt := 26) C dL_act_15 (by decide) (fun _ => ?_) (fun c => absurd c (by decide))
  refine z_iload_n C dL_act_26 rfl 1 rfl ?_
  refine z_iconst (v := (2 : Int32)) C dL_act_27 (by decide) ?_
  refine z_icmp_ne (tgt := 39) C dL_act_28 (by decide) (fun _ => ?_) (fun c => absurd c (by decide))
  refine z_iload_n C dL_act_39 rfl 1 rfl ?_
  refine z_iconst (v := (3 : Int32)) C dL_act_40 (by decide) ?_
  refine z_icmp_ne (tgt := 53) C dL_act_41 (by decide) (fun _ => ?_) (fun c => absurd c (by decide))
  refine z_iload_n C dL_act_53 rfl 1 rfl ?_
  refine z_iconst (v := (4 : Int32)) C dL_act_54 (by decide) ?_
  refine z_icmp_ne (tgt := 75) C dL_act_55 (by decide) (fun _ => ?_) (fun c => absurd c (by decide))
  refine z_iload_n C dL_act_75 rfl 1 rfl ?_
  refine z_iconst (v := (5 : Int32)) C dL_act_76 (by decide) ?_
  refine z_icmp_ne (tgt := 88) C dL_act_77 (by decide) (fun _ => ?_) (fun c => absurd c (by decide))
  refine z_iload_n C dL_act_88 rfl 1 rfl ?_
  refine z_bipush (v := (6 : Int32)) C dL_act_89 (by decide) ?_
  refine z_icmp_ne (tgt := 103) C dL_act_91 (by decide) (fun c => absurd (by decide) c) (fun _ => ?_)
  refine z_aload_n C dL_act_94 rfl 0 rfl ?_
  refine z_iload_n C dL_act_95 rfl 2 rfl ?_
  refine z_iload_n C dL_act_96 rfl 3 rfl ?_
  exact z_hv (ex := 1) (vd := false) (Cn := RX7) (k := 0) C 2 [.int v2, .int v3] [] (c_X7_why (zC_I C) (zC_st C) hm) hQ gL_act_X7_why (by decide +kernel) kX0 vc7 rfl rfl dL_act_97 rfl ⟨Nat.le_of_ble_eq_true rfl, Nat.le_of_ble_eq_true rfl⟩ rfl (Nat.le_of_ble_eq_true rfl) [] ⟨0, 223, 224, 13⟩ [⟨0, 223, 229, 15⟩, ⟨0, 223, 234, 17⟩] rfl (fun z hz => absurd hz List.not_mem_nil) (by decide) (by decide) eL_act_k13 dL_act_224 (by decide) (by decide) dL_act_226 dL_act_228 rfl rfl
set_option maxRecDepth 100000 in
set_option maxHeartbeats 4000000 in
theorem cL_act_bracket_v {h : zH} {ad : Nat → Nat} (hI : zI ad zLX.length) (hst : h.1.stackTraces = false) {n : Nat} {v2 : Int32} {v3 : Int32} {r : Int32} {s s9 : zS} (hm : m_X7_bracket n v2 v3 s = some (.inl r, s9)) : zMH h ad zLX yL_act wsL_act 9 186 [.ref (ad 0), .int (7 : Int32), .int v2, .int v3] s r s9 := by
  refine z_startH (hh := [(0, 223, 224, 13), (0, 223, 229, 15), (0, 223, 234, 17)]) (cc := cL_act) (nL := 5) (ret := some .int) (own := RL) (by decide +kernel) rfl rfl hI hst (Nat.le_of_ble_eq_true rfl) (fun G C hQ => ?_)
  show zV h ad zLX 5 G s 0 [(0, .ref (ad 0)), (1, .int (7 : Int32)), (2, .int v2), (3, .int v3)] []
  refine z_iload_n C dL_act_0 rfl 1 rfl ?_
  refine z_if_ne (tgt := 13) C dL_act_1 (by decide) (fun _ => ?_) (fun c => absurd c (by decide))
  refine z_iload_n C dL_act_13 rfl 1 rfl ?_
  refine z_iconst (v := (1 : Int32)) C dL_act_14 (by decide) ?_
  refine z_icmp_ne (tgt := 26) C dL_act_15 (by decide) (fun _ => ?_) (fun c => absurd c (by decide))
  refine z_iload_n C dL_act_26 rfl 1 rfl ?_
  refine z_iconst (v := (2 : Int32)) C dL_act_27 (by decide) ?_
  refine z_icmp_ne (tgt := 39) C dL_act_28 (by decide) (fun _ => ?_) (fun c => absurd c (by decide))
  refine z_iload_n C dL_act_39 rfl 1 rfl ?_
  refine z_iconst (v := (3 : Int32)) C dL_act_40 (by decide) ?_
  refine z_icmp_ne (tgt := 53) C dL_act_41 (by decide) (fun _ => ?_) (fun c => absurd c (by decide))
  refine z_iload_n C dL_act_53 rfl 1 rfl ?_
  refine z_iconst (v := (4 : Int32)) C dL_act_54 (by decide) ?_
  refine z_icmp_ne (tgt := 75) C dL_act_55 (by decide) (fun _ => ?_) (fun c => absurd c (by decide))
  refine z_iload_n C dL_act_75 rfl 1 rfl ?_
  refine z_iconst (v := (5 : Int32)) C dL_act_76 (by decide) ?_
  refine z_icmp_ne (tgt := 88) C dL_act_77 (by decide) (fun _ => ?_) (fun c => absurd c (by decide))
  refine z_iload_n C dL_act_88 rfl 1 rfl ?_
  refine z_bipush (v := (6 : Int32)) C dL_act_89 (by decide) ?_
  refine z_icmp_ne (tgt := 103) C dL_act_91 (by decide) (fun _ => ?_) (fun c => absurd c (by decide))
  refine z_iload_n C dL_act_103 rfl 1 rfl ?_
  refine z_bipush (v := (7 : Int32)) C dL_act_104 (by decide) ?_
  refine z_icmp_ne (tgt := 118) C dL_act_106 (by decide) (fun c => absurd (by decide) c) (fun _ => ?_)
  refine z_aload_n C dL_act_109 rfl 0 rfl ?_
  refine z_iload_n C dL_act_110 rfl 2 rfl ?_
  refine z_iload_n C dL_act_111 rfl 3 rfl ?_
  refine z_cV (vd := false) (Cn := RX7) (k := 0) C 2 [.int v2, .int v3] [] (c_X7_bracket (zC_I C) (zC_st C) hm) gL_act_X7_bracket (by decide +kernel) kX0 vc7 rfl rfl dL_act_112 rfl ⟨Nat.le_of_ble_eq_true rfl, Nat.le_of_ble_eq_true rfl⟩ rfl (Nat.le_of_ble_eq_true rfl) ?_
  refine z_goto (tgt := 223) C dL_act_115 (by decide) ?_
  exact z_hret C hQ rfl rfl dL_act_223
set_option maxRecDepth 100000 in
set_option maxHeartbeats 4000000 in
theorem cL_act_bracket_x2 {h : zH} {ad : Nat → Nat} (hI : zI ad zLX.length) (hst : h.1.stackTraces = false) {n : Nat} {v2 : Int32} {v3 : Int32} {s s9 : zS} (hm : m_X7_bracket n v2 v3 s = some (.inr 2, s9)) : zMH h ad zLX yL_act wsL_act 9 186 [.ref (ad 0), .int (7 : Int32), .int v2, .int v3] s (-72 : Int32) s9 := by
  refine z_startH (hh := [(0, 223, 224, 13), (0, 223, 229, 15), (0, 223, 234, 17)]) (cc := cL_act) (nL := 5) (ret := some .int) (own := RL) (by decide +kernel) rfl rfl hI hst (Nat.le_of_ble_eq_true rfl) (fun G C hQ => ?_)
  show zV h ad zLX 5 G s 0 [(0, .ref (ad 0)), (1, .int (7 : Int32)), (2, .int v2), (3, .int v3)] []
  refine z_iload_n C dL_act_0 rfl 1 rfl ?_
  refine z_if_ne (tgt := 13) C dL_act_1 (by decide) (fun _ => ?_) (fun c => absurd c (by decide))
  refine z_iload_n C dL_act_13 rfl 1 rfl ?_
  refine z_iconst (v := (1 : Int32)) C dL_act_14 (by decide) ?_
  refine z_icmp_ne (tgt := 26) C dL_act_15 (by decide) (fun _ => ?_) (fun c => absurd c (by decide))
  refine z_iload_n C dL_act_26 rfl 1 rfl ?_
  refine z_iconst (v := (2 : Int32)) C dL_act_27 (by decide) ?_
  refine z_icmp_ne (tgt := 39) C dL_act_28 (by decide) (fun _ => ?_) (fun c => absurd c (by decide))
  refine z_iload_n C dL_act_39 rfl 1 rfl ?_
  refine z_iconst (v := (3 : Int32)) C dL_act_40 (by decide) ?_
  refine z_icmp_ne (tgt := 53) C dL_act_41 (by decide) (fun _ => ?_) (fun c => absurd c (by decide))
  refine z_iload_n C dL_act_53 rfl 1 rfl ?_
  refine z_iconst (v := (4 : Int32)) C dL_act_54 (by decide) ?_
  refine z_icmp_ne (tgt := 75) C dL_act_55 (by decide) (fun _ => ?_) (fun c => absurd c (by decide))
  refine z_iload_n C dL_act_75 rfl 1 rfl ?_
  refine z_iconst (v := (5 : Int32)) C dL_act_76 (by decide) ?_
  refine z_icmp_ne (tgt := 88) C dL_act_77 (by decide) (fun _ => ?_) (fun c => absurd c (by decide))
  refine z_iload_n C dL_act_88 rfl 1 rfl ?_
  refine z_bipush (v := (6 : Int32)) C dL_act_89 (by decide) ?_
  refine z_icmp_ne (tgt := 103) C dL_act_91 (by decide) (fun _ => ?_) (fun c => absurd c (by decide))
  refine z_iload_n C dL_act_103 rfl 1 rfl ?_
  refine z_bipush (v := (7 : Int32)) C dL_act_104 (by decide) ?_
  refine z_icmp_ne (tgt := 118) C dL_act_106 (by decide) (fun c => absurd (by decide) c) (fun _ => ?_)
  refine z_aload_n C dL_act_109 rfl 0 rfl ?_
  refine z_iload_n C dL_act_110 rfl 2 rfl ?_
  refine z_iload_n C dL_act_111 rfl 3 rfl ?_
  exact z_hv (ex := 2) (vd := false) (Cn := RX7) (k := 0) C 2 [.int v2, .int v3] [] (c_X7_bracket (zC_I C) (zC_st C) hm) hQ gL_act_X7_bracket (by decide +kernel) kX0 vc7 rfl rfl dL_act_112 rfl ⟨Nat.le_of_ble_eq_true rfl, Nat.le_of_ble_eq_true rfl⟩ rfl (Nat.le_of_ble_eq_true rfl) [⟨0, 223, 224, 13⟩] ⟨0, 223, 229, 15⟩ [⟨0, 223, 234, 17⟩] rfl (by intro z hz; simp only [List.mem_cons, List.not_mem_nil, or_false] at hz; subst hz; exact ⟨by decide, 1, eL_act_k13, by decide⟩) (by decide) (by decide) eL_act_k15 dL_act_229 (by decide) (by decide) dL_act_231 dL_act_233 rfl rfl
set_option maxRecDepth 100000 in
set_option maxHeartbeats 4000000 in
theorem cL_act_bracket_x3 {h : zH} {ad : Nat → Nat} (hI : zI ad zLX.length) (hst : h.1.stackTraces = false) {n : Nat} {v2 : Int32} {v3 : Int32} {s s9 : zS} (hm : m_X7_bracket n v2 v3 s = some (.inr 3, s9)) : zMH h ad zLX yL_act wsL_act 9 186 [.ref (ad 0), .int (7 : Int32), .int v2, .int v3] s (-73 : Int32) s9 := by
  refine z_startH (hh := [(0, 223, 224, 13), (0, 223, 229, 15), (0, 223, 234, 17)]) (cc := cL_act) (nL := 5) (ret := some .int) (own := RL) (by decide +kernel) rfl rfl hI hst (Nat.le_of_ble_eq_true rfl) (fun G C hQ => ?_)
  show zV h ad zLX 5 G s 0 [(0, .ref (ad 0)), (1, .int (7 : Int32)), (2, .int v2), (3, .int v3)] []
  refine z_iload_n C dL_act_0 rfl 1 rfl ?_
  refine z_if_ne (tgt := 13) C dL_act_1 (by decide) (fun _ => ?_) (fun c => absurd c (by decide))
  refine z_iload_n C dL_act_13 rfl 1 rfl ?_
  refine z_iconst (v := (1 : Int32)) C dL_act_14 (by decide) ?_
  refine z_icmp_ne (tgt := 26) C dL_act_15 (by decide) (fun _ => ?_) (fun c => absurd c (by decide))
  refine z_iload_n C dL_act_26 rfl 1 rfl ?_
  refine z_iconst (v := (2 : Int32)) C dL_act_27 (by decide) ?_
  refine z_icmp_ne (tgt := 39) C dL_act_28 (by decide) (fun _ => ?_) (fun c => absurd c (by decide))
  refine z_iload_n C dL_act_39 rfl 1 rfl ?_
  refine z_iconst (v := (3 : Int32)) C dL_act_40 (by decide) ?_
  refine z_icmp_ne (tgt := 53) C dL_act_41 (by decide) (fun _ => ?_) (fun c => absurd c (by decide))
  refine z_iload_n C dL_act_53 rfl 1 rfl ?_
  refine z_iconst (v := (4 : Int32)) C dL_act_54 (by decide) ?_
  refine z_icmp_ne (tgt := 75) C dL_act_55 (by decide) (fun _ => ?_) (fun c => absurd c (by decide))
  refine z_iload_n C dL_act_75 rfl 1 rfl ?_
  refine z_iconst (v := (5 : Int32)) C dL_act_76 (by decide) ?_
  refine z_icmp_ne (tgt := 88) C dL_act_77 (by decide) (fun _ => ?_) (fun c => absurd c (by decide))
  refine z_iload_n C dL_act_88 rfl 1 rfl ?_
  refine z_bipush (v := (6 : Int32)) C dL_act_89 (by decide) ?_
  refine z_icmp_ne (tgt := 103) C dL_act_91 (by decide) (fun _ => ?_) (fun c => absurd c (by decide))
  refine z_iload_n C dL_act_103 rfl 1 rfl ?_
  refine z_bipush (v := (7 : Int32)) C dL_act_104 (by decide) ?_
  refine z_icmp_ne (tgt := 118) C dL_act_106 (by decide) (fun c => absurd (by decide) c) (fun _ => ?_)
  refine z_aload_n C dL_act_109 rfl 0 rfl ?_
  refine z_iload_n C dL_act_110 rfl 2 rfl ?_
  refine z_iload_n C dL_act_111 rfl 3 rfl ?_
  exact z_hv (ex := 3) (vd := false) (Cn := RX7) (k := 0) C 2 [.int v2, .int v3] [] (c_X7_bracket (zC_I C) (zC_st C) hm) hQ gL_act_X7_bracket (by decide +kernel) kX0 vc7 rfl rfl dL_act_112 rfl ⟨Nat.le_of_ble_eq_true rfl, Nat.le_of_ble_eq_true rfl⟩ rfl (Nat.le_of_ble_eq_true rfl) [⟨0, 223, 224, 13⟩, ⟨0, 223, 229, 15⟩] ⟨0, 223, 234, 17⟩ [] rfl (by intro z hz; simp only [List.mem_cons, List.not_mem_nil, or_false] at hz; rcases hz with rfl | rfl; exact ⟨by decide, 1, eL_act_k13, by decide⟩; exact ⟨by decide, 2, eL_act_k15, by decide⟩) (by decide) (by decide) eL_act_k17 dL_act_234 (by decide) (by decide) dL_act_236 dL_act_238 rfl rfl
set_option maxRecDepth 100000 in
set_option maxHeartbeats 4000000 in
theorem cL_act_taxOn_v {h : zH} {ad : Nat → Nat} (hI : zI ad zLX.length) (hst : h.1.stackTraces = false) {n : Nat} {v2 : Int32} {v3 : Int32} {r : Int32} {s s9 : zS} (hm : m_X7_taxOn n v2 s = some (.inl r, s9)) : zMH h ad zLX yL_act wsL_act 9 186 [.ref (ad 0), .int (8 : Int32), .int v2, .int v3] s r s9 := by
  refine z_startH (hh := [(0, 223, 224, 13), (0, 223, 229, 15), (0, 223, 234, 17)]) (cc := cL_act) (nL := 5) (ret := some .int) (own := RL) (by decide +kernel) rfl rfl hI hst (Nat.le_of_ble_eq_true rfl) (fun G C hQ => ?_)
  show zV h ad zLX 5 G s 0 [(0, .ref (ad 0)), (1, .int (8 : Int32)), (2, .int v2), (3, .int v3)] []
  refine z_iload_n C dL_act_0 rfl 1 rfl ?_
  refine z_if_ne (tgt := 13) C dL_act_1 (by decide) (fun _ => ?_) (fun c => absurd c (by decide))
  refine z_iload_n C dL_act_13 rfl 1 rfl ?_
  refine z_iconst (v := (1 : Int32)) C dL_act_14 (by decide) ?_
  refine z_icmp_ne (tgt := 26) C dL_act_15 (by decide) (fun _ => ?_) (fun c => absurd c (by decide))
  refine z_iload_n C dL_act_26 rfl 1 rfl ?_
  refine z_iconst (v := (2 : Int32)) C dL_act_27 (by decide) ?_
  refine z_icmp_ne (tgt := 39) C dL_act_28 (by decide) (fun _ => ?_) (fun c => absurd c (by decide))
  refine z_iload_n C dL_act_39 rfl 1 rfl ?_
  refine z_iconst (v := (3 : Int32)) C dL_act_40 (by decide) ?_
  refine z_icmp_ne (tgt := 53) C dL_act_41 (by decide) (fun _ => ?_) (fun c => absurd c (by decide))
  refine z_iload_n C dL_act_53 rfl 1 rfl ?_
  refine z_iconst (v := (4 : Int32)) C dL_act_54 (by decide) ?_
  refine z_icmp_ne (tgt := 75) C dL_act_55 (by decide) (fun _ => ?_) (fun c => absurd c (by decide))
  refine z_iload_n C dL_act_75 rfl 1 rfl ?_
  refine z_iconst (v := (5 : Int32)) C dL_act_76 (by decide) ?_
  refine z_icmp_ne (tgt := 88) C dL_act_77 (by decide) (fun _ => ?_) (fun c => absurd c (by decide))
  refine z_iload_n C dL_act_88 rfl 1 rfl ?_
  refine z_bipush (v := (6 : Int32)) C dL_act_89 (by decide) ?_
  refine z_icmp_ne (tgt := 103) C dL_act_91 (by decide) (fun _ => ?_) (fun c => absurd c (by decide))
  refine z_iload_n C dL_act_103 rfl 1 rfl ?_
  refine z_bipush (v := (7 : Int32)) C dL_act_104 (by decide) ?_
  refine z_icmp_ne (tgt := 118) C dL_act_106 (by decide) (fun _ => ?_) (fun c => absurd c (by decide))
  refine z_iload_n C dL_act_118 rfl 1 rfl ?_
  refine z_bipush (v := (8 : Int32)) C dL_act_119 (by decide) ?_
  refine z_icmp_ne (tgt := 132) C dL_act_121 (by decide) (fun c => absurd (by decide) c) (fun _ => ?_)
  refine z_aload_n C dL_act_124 rfl 0 rfl ?_
  refine z_iload_n C dL_act_125 rfl 2 rfl ?_
  refine z_cV (vd := false) (Cn := RX7) (k := 0) C 1 [.int v2] [] (c_X7_taxOn (zC_I C) (zC_st C) hm) gL_act_X7_taxOn (by decide +kernel) kX0 vc7 rfl rfl dL_act_126 rfl ⟨Nat.le_of_ble_eq_true rfl, Nat.le_of_ble_eq_true rfl⟩ rfl (Nat.le_of_ble_eq_true rfl) ?_
  refine z_goto (tgt := 223) C dL_act_129 (by decide) ?_
  exact z_hret C hQ rfl rfl dL_act_223
set_option maxRecDepth 100000 in
set_option maxHeartbeats 4000000 in
theorem cL_act_taxOn_x2 {h : zH} {ad : Nat → Nat} (hI : zI ad zLX.length) (hst : h.1.stackTraces = false) {n : Nat} {v2 : Int32} {v3 : Int32} {s s9 : zS} (hm : m_X7_taxOn n v2 s = some (.inr 2, s9)) : zMH h ad zLX yL_act wsL_act 9 186 [.ref (ad 0), .int (8 : Int32), .int v2, .int v3] s (-72 : Int32) s9 := by
  refine z_startH (hh := [(0, 223, 224, 13), (0, 223, 229, 15), (0, 223, 234, 17)]) (cc := cL_act) (nL := 5) (ret := some .int) (own := RL) (by decide +kernel) rfl rfl hI hst (Nat.le_of_ble_eq_true rfl) (fun G C hQ => ?_)
  show zV h ad zLX 5 G s 0 [(0, .ref (ad 0)), (1, .int (8 : Int32)), (2, .int v2), (3, .int v3)] []
  refine z_iload_n C dL_act_0 rfl 1 rfl ?_
  refine z_if_ne (tgt := 13) C dL_act_1 (by decide) (fun _ => ?_) (fun c => absurd c (by decide))
  refine z_iload_n C dL_act_13 rfl 1 rfl ?_
  refine z_iconst (v := (1 : Int32)) C dL_act_14 (by decide) ?_
  refine z_icmp_ne (tgt := 26) C dL_act_15 (by decide) (fun _ => ?_) (fun c => absurd c (by decide))
  refine z_iload_n C dL_act_26 rfl 1 rfl ?_
  refine z_iconst (v := (2 : Int32)) C dL_act_27 (by decide) ?_
  refine z_icmp_ne (tgt := 39) C dL_act_28 (by decide) (fun _ => ?_) (fun c => absurd c (by decide))
  refine z_iload_n C dL_act_39 rfl 1 rfl ?_
  refine z_iconst (v := (3 : Int32)) C dL_act_40 (by decide) ?_
  refine z_icmp_ne (tgt := 53) C dL_act_41 (by decide) (fun _ => ?_) (fun c => absurd c (by decide))
  refine z_iload_n C dL_act_53 rfl 1 rfl ?_
  refine z_iconst (v := (4 : Int32)) C dL_act_54 (by decide) ?_
  refine z_icmp_ne (tgt := 75) C dL_act_55 (by decide) (fun _ => ?_) (fun c => absurd c (by decide))
  refine z_iload_n C dL_act_75 rfl 1 rfl ?_
  refine z_iconst (v := (5 : Int32)) C dL_act_76 (by decide) ?_
  refine z_icmp_ne (tgt := 88) C dL_act_77 (by decide) (fun _ => ?_) (fun c => absurd c (by decide))
  refine z_iload_n C dL_act_88 rfl 1 rfl ?_
  refine z_bipush (v := (6 : Int32)) C dL_act_89 (by decide) ?_
  refine z_icmp_ne (tgt := 103) C dL_act_91 (by decide) (fun _ => ?_) (fun c => absurd c (by decide))
  refine z_iload_n C dL_act_103 rfl 1 rfl ?_
  refine z_bipush (v := (7 : Int32)) C dL_act_104 (by decide) ?_
  refine z_icmp_ne (tgt := 118) C dL_act_106 (by decide) (fun _ => ?_) (fun c => absurd c (by decide))
  refine z_iload_n C dL_act_118 rfl 1 rfl ?_
  refine z_bipush (v := (8 : Int32)) C dL_act_119 (by decide) ?_
  refine z_icmp_ne (tgt := 132) C dL_act_121 (by decide) (fun c => absurd (by decide) c) (fun _ => ?_)
  refine z_aload_n C dL_act_124 rfl 0 rfl ?_
  refine z_iload_n C dL_act_125 rfl 2 rfl ?_
  exact z_hv (ex := 2) (vd := false) (Cn := RX7) (k := 0) C 1 [.int v2] [] (c_X7_taxOn (zC_I C) (zC_st C) hm) hQ gL_act_X7_taxOn (by decide +kernel) kX0 vc7 rfl rfl dL_act_126 rfl ⟨Nat.le_of_ble_eq_true rfl, Nat.le_of_ble_eq_true rfl⟩ rfl (Nat.le_of_ble_eq_true rfl) [⟨0, 223, 224, 13⟩] ⟨0, 223, 229, 15⟩ [⟨0, 223, 234, 17⟩] rfl (by intro z hz; simp only [List.mem_cons, List.not_mem_nil, or_false] at hz; subst hz; exact ⟨by decide, 1, eL_act_k13, by decide⟩) (by decide) (by decide) eL_act_k15 dL_act_229 (by decide) (by decide) dL_act_231 dL_act_233 rfl rfl
set_option maxRecDepth 100000 in
set_option maxHeartbeats 4000000 in
theorem cL_act_carry_v {h : zH} {ad : Nat → Nat} (hI : zI ad zLX.length) (hst : h.1.stackTraces = false) {n : Nat} {v2 : Int32} {v3 : Int32} {r : Int32} {s s9 : zS} (hm : m_X7_carry n v2 v3 s = some (.inl r, s9)) : zMH h ad zLX yL_act wsL_act 9 186 [.ref (ad 0), .int (9 : Int32), .int v2, .int v3] s r s9 := by
  refine z_startH (hh := [(0, 223, 224, 13), (0, 223, 229, 15), (0, 223, 234, 17)]) (cc := cL_act) (nL := 5) (ret := some .int) (own := RL) (by decide +kernel) rfl rfl hI hst (Nat.le_of_ble_eq_true rfl) (fun G C hQ => ?_)
  show zV h ad zLX 5 G s 0 [(0, .ref (ad 0)), (1, .int (9 : Int32)), (2, .int v2), (3, .int v3)] []
  refine z_iload_n C dL_act_0 rfl 1 rfl ?_
  refine z_if_ne (tgt := 13) C dL_act_1 (by decide) (fun _ => ?_) (fun c => absurd c (by decide))
  refine z_iload_n C dL_act_13 rfl 1 rfl ?_
  refine z_iconst (v := (1 : Int32)) C dL_act_14 (by decide) ?_
  refine z_icmp_ne (tgt := 26) C dL_act_15 (by decide) (fun _ => ?_) (fun c => absurd c (by decide))
  refine z_iload_n C dL_act_26 rfl 1 rfl ?_
  refine z_iconst (v := (2 : Int32)) C dL_act_27 (by decide) ?_
  refine z_icmp_ne (tgt := 39) C dL_act_28 (by decide) (fun _ => ?_) (fun c => absurd c (by decide))
  refine z_iload_n C dL_act_39 rfl 1 rfl ?_
  refine z_iconst (v := (3 : Int32)) C dL_act_40 (by decide) ?_
  refine z_icmp_ne (tgt := 53) C dL_act_41 (by decide) (fun _ => ?_) (fun c => absurd c (by decide))
  refine z_iload_n C dL_act_53 rfl 1 rfl ?_
  refine z_iconst (v := (4 : Int32)) C dL_act_54 (by decide) ?_
  refine z_icmp_ne (tgt := 75) C dL_act_55 (by decide) (fun _ => ?_) (fun c => absurd c (by decide))
  refine z_iload_n C dL_act_75 rfl 1 rfl ?_
  refine z_iconst (v := (5 : Int32)) C dL_act_76 (by decide) ?_
  refine z_icmp_ne (tgt := 88) C dL_act_77 (by decide) (fun _ => ?_) (fun c => absurd c (by decide))
  refine z_iload_n C dL_act_88 rfl 1 rfl ?_
  refine z_bipush (v := (6 : Int32)) C dL_act_89 (by decide) ?_
  refine z_icmp_ne (tgt := 103) C dL_act_91 (by decide) (fun _ => ?_) (fun c => absurd c (by decide))
  refine z_iload_n C dL_act_103 rfl 1 rfl ?_
  refine z_bipush (v := (7 : Int32)) C dL_act_104 (by decide) ?_
  refine z_icmp_ne (tgt := 118) C dL_act_106 (by decide) (fun _ => ?_) (fun c => absurd c (by decide))
  refine z_iload_n C dL_act_118 rfl 1 rfl ?_
  refine z_bipush (v := (8 : Int32)) C dL_act_119 (by decide) ?_
  refine z_icmp_ne (tgt := 132) C dL_act_121 (by decide) (fun _ => ?_) (fun c => absurd c (by decide))
  refine z_iload_n C dL_act_132 rfl 1 rfl ?_
  refine z_bipush (v := (9 : Int32)) C dL_act_133 (by decide) ?_
  refine z_icmp_ne (tgt := 147) C dL_act_135 (by decide) (fun c => absurd (by decide) c) (fun _ => ?_)
  refine z_aload_n C dL_act_138 rfl 0 rfl ?_
  refine z_iload_n C dL_act_139 rfl 2 rfl ?_
  refine z_iload_n C dL_act_140 rfl 3 rfl ?_
  refine z_cV (vd := false) (Cn := RX7) (k := 0) C 2 [.int v2, .int v3] [] (c_X7_carry (zC_I C) (zC_st C) hm) gL_act_X7_carry (by decide +kernel) kX0 vc7 rfl rfl dL_act_141 rfl ⟨Nat.le_of_ble_eq_true rfl, Nat.le_of_ble_eq_true rfl⟩ rfl (Nat.le_of_ble_eq_true rfl) ?_
  refine z_goto (tgt := 223) C dL_act_144 (by decide) ?_
  exact z_hret C hQ rfl rfl dL_act_223
set_option maxRecDepth 100000 in
set_option maxHeartbeats 4000000 in
theorem cL_act_carry_x2 {h : zH} {ad : Nat → Nat} (hI : zI ad zLX.length) (hst : h.1.stackTraces = false) {n : Nat} {v2 : Int32} {v3 : Int32} {s s9 : zS} (hm : m_X7_carry n v2 v3 s = some (.inr 2, s9)) : zMH h ad zLX yL_act wsL_act 9 186 [.ref (ad 0), .int (9 : Int32), .int v2, .int v3] s (-72 : Int32) s9 := by
  refine z_startH (hh := [(0, 223, 224, 13), (0, 223, 229, 15), (0, 223, 234, 17)]) (cc := cL_act) (nL := 5) (ret := some .int) (own := RL) (by decide +kernel) rfl rfl hI hst (Nat.le_of_ble_eq_true rfl) (fun G C hQ => ?_)
  show zV h ad zLX 5 G s 0 [(0, .ref (ad 0)), (1, .int (9 : Int32)), (2, .int v2), (3, .int v3)] []
  refine z_iload_n C dL_act_0 rfl 1 rfl ?_
  refine z_if_ne (tgt := 13) C dL_act_1 (by decide) (fun _ => ?_) (fun c => absurd c (by decide))
  refine z_iload_n C dL_act_13 rfl 1 rfl ?_
  refine z_iconst (v := (1 : Int32)) C dL_act_14 (by decide) ?_
  refine z_icmp_ne (tgt := 26) C dL_act_15 (by decide) (fun _ => ?_) (fun c => absurd c (by decide))
  refine z_iload_n C dL_act_26 rfl 1 rfl ?_
  refine z_iconst (v := (2 : Int32)) C dL_act_27 (by decide) ?_
  refine z_icmp_ne (tgt := 39) C dL_act_28 (by decide) (fun _ => ?_) (fun c => absurd c (by decide))
  refine z_iload_n C dL_act_39 rfl 1 rfl ?_
  refine z_iconst (v := (3 : Int32)) C dL_act_40 (by decide) ?_
  refine z_icmp_ne (tgt := 53) C dL_act_41 (by decide) (fun _ => ?_) (fun c => absurd c (by decide))
  refine z_iload_n C dL_act_53 rfl 1 rfl ?_
  refine z_iconst (v := (4 : Int32)) C dL_act_54 (by decide) ?_
  refine z_icmp_ne (tgt := 75) C dL_act_55 (by decide) (fun _ => ?_) (fun c => absurd c (by decide))
  refine z_iload_n C dL_act_75 rfl 1 rfl ?_
  refine z_iconst (v := (5 : Int32)) C dL_act_76 (by decide) ?_
  refine z_icmp_ne (tgt := 88) C dL_act_77 (by decide) (fun _ => ?_) (fun c => absurd c (by decide))
  refine z_iload_n C dL_act_88 rfl 1 rfl ?_
  refine z_bipush (v := (6 : Int32)) C dL_act_89 (by decide) ?_
  refine z_icmp_ne (tgt := 103) C dL_act_91 (by decide) (fun _ => ?_) (fun c => absurd c (by decide))
  refine z_iload_n C dL_act_103 rfl 1 rfl ?_
  refine z_bipush (v := (7 : Int32)) C dL_act_104 (by decide) ?_
  refine z_icmp_ne (tgt := 118) C dL_act_106 (by decide) (fun _ => ?_) (fun c => absurd c (by decide))
  refine z_iload_n C dL_act_118 rfl 1 rfl ?_
  refine z_bipush (v := (8 : Int32)) C dL_act_119 (by decide) ?_
  refine z_icmp_ne (tgt := 132) C dL_act_121 (by decide) (fun _ => ?_) (fun c => absurd c (by decide))
  refine z_iload_n C dL_act_132 rfl 1 rfl ?_
  refine z_bipush (v := (9 : Int32)) C dL_act_133 (by decide) ?_
  refine z_icmp_ne (tgt := 147) C dL_act_135 (by decide) (fun c => absurd (by decide) c) (fun _ => ?_)
  refine z_aload_n C dL_act_138 rfl 0 rfl ?_
  refine z_iload_n C dL_act_139 rfl 2 rfl ?_
  refine z_iload_n C dL_act_140 rfl 3 rfl ?_
  exact z_hv (ex := 2) (vd := false) (Cn := RX7) (k := 0) C 2 [.int v2, .int v3] [] (c_X7_carry (zC_I C) (zC_st C) hm) hQ gL_act_X7_carry (by decide +kernel) kX0 vc7 rfl rfl dL_act_141 rfl ⟨Nat.le_of_ble_eq_true rfl, Nat.le_of_ble_eq_true rfl⟩ rfl (Nat.le_of_ble_eq_true rfl) [⟨0, 223, 224, 13⟩] ⟨0, 223, 229, 15⟩ [⟨0, 223, 234, 17⟩] rfl (by intro z hz; simp only [List.mem_cons, List.not_mem_nil, or_false] at hz; subst hz; exact ⟨by decide, 1, eL_act_k13, by decide⟩) (by decide) (by decide) eL_act_k15 dL_act_229 (by decide) (by decide) dL_act_231 dL_act_233 rfl rfl
set_option maxRecDepth 100000 in
set_option maxHeartbeats 4000000 in
theorem cL_act_carry_x3 {h : zH} {ad : Nat → Nat} (hI : zI ad zLX.length) (hst : h.1.stackTraces = false) {n : Nat} {v2 : Int32} {v3 : Int32} {s s9 : zS} (hm : m_X7_carry n v2 v3 s = some (.inr 3, s9)) : zMH h ad zLX yL_act wsL_act 9 186 [.ref (ad 0), .int (9 : Int32), .int v2, .int v3] s (-73 : Int32) s9 := by
  refine z_startH (hh := [(0, 223, 224, 13), (0, 223, 229, 15), (0, 223, 234, 17)]) (cc := cL_act) (nL := 5) (ret := some .int) (own := RL) (by decide +kernel) rfl rfl hI hst (Nat.le_of_ble_eq_true rfl) (fun G C hQ => ?_)
  show zV h ad zLX 5 G s 0 [(0, .ref (ad 0)), (1, .int (9 : Int32)), (2, .int v2), (3, .int v3)] []
  refine z_iload_n C dL_act_0 rfl 1 rfl ?_
  refine z_if_ne (tgt := 13) C dL_act_1 (by decide) (fun _ => ?_) (fun c => absurd c (by decide))
  refine z_iload_n C dL_act_13 rfl 1 rfl ?_
  refine z_iconst (v := (1 : Int32)) C dL_act_14 (by decide) ?_
  refine z_icmp_ne (tgt := 26) C dL_act_15 (by decide) (fun _ => ?_) (fun c => absurd c (by decide))
  refine z_iload_n C dL_act_26 rfl 1 rfl ?_
  refine z_iconst (v := (2 : Int32)) C dL_act_27 (by decide) ?_
  refine z_icmp_ne (tgt := 39) C dL_act_28 (by decide) (fun _ => ?_) (fun c => absurd c (by decide))
  refine z_iload_n C dL_act_39 rfl 1 rfl ?_
  refine z_iconst (v := (3 : Int32)) C dL_act_40 (by decide) ?_
  refine z_icmp_ne (tgt := 53) C dL_act_41 (by decide) (fun _ => ?_) (fun c => absurd c (by decide))
  refine z_iload_n C dL_act_53 rfl 1 rfl ?_
  refine z_iconst (v := (4 : Int32)) C dL_act_54 (by decide) ?_
  refine z_icmp_ne (tgt := 75) C dL_act_55 (by decide) (fun _ => ?_) (fun c => absurd c (by decide))
  refine z_iload_n C dL_act_75 rfl 1 rfl ?_
  refine z_iconst (v := (5 : Int32)) C dL_act_76 (by decide) ?_
  refine z_icmp_ne (tgt := 88) C dL_act_77 (by decide) (fun _ => ?_) (fun c => absurd c (by decide))
  refine z_iload_n C dL_act_88 rfl 1 rfl ?_
  refine z_bipush (v := (6 : Int32)) C dL_act_89 (by decide) ?_
  refine z_icmp_ne (tgt := 103) C dL_act_91 (by decide) (fun _ => ?_) (fun c => absurd c (by decide))
  refine z_iload_n C dL_act_103 rfl 1 rfl ?_
  refine z_bipush (v := (7 : Int32)) C dL_act_104 (by decide) ?_
  refine z_icmp_ne (tgt := 118) C dL_act_106 (by decide) (fun _ => ?_) (fun c => absurd c (by decide))
  refine z_iload_n C dL_act_118 rfl 1 rfl ?_
  refine z_bipush (v := (8 : Int32)) C dL_act_119 (by decide) ?_
  refine z_icmp_ne (tgt := 132) C dL_act_121 (by decide) (fun _ => ?_) (fun c => absurd c (by decide))
  refine z_iload_n C dL_act_132 rfl 1 rfl ?_
  refine z_bipush (v := (9 : Int32)) C dL_act_133 (by decide) ?_
  refine z_icmp_ne (tgt := 147) C dL_act_135 (by decide) (fun c => absurd (by decide) c) (fun _ => ?_)
  refine z_aload_n C dL_act_138 rfl 0 rfl ?_
  refine z_iload_n C dL_act_139 rfl 2 rfl ?_
  refine z_iload_n C dL_act_140 rfl 3 rfl ?_
  exact z_hv (ex := 3) (vd := false) (Cn := RX7) (k := 0) C 2 [.int v2, .int v3] [] (c_X7_carry (zC_I C) (zC_st C) hm) hQ gL_act_X7_carry (by decide +kernel) kX0 vc7 rfl rfl dL_act_141 rfl ⟨Nat.le_of_ble_eq_true rfl, Nat.le_of_ble_eq_true rfl⟩ rfl (Nat.le_of_ble_eq_true rfl) [⟨0, 223, 224, 13⟩, ⟨0, 223, 229, 15⟩] ⟨0, 223, 234, 17⟩ [] rfl (by intro z hz; simp only [List.mem_cons, List.not_mem_nil, or_false] at hz; rcases hz with rfl | rfl; exact ⟨by decide, 1, eL_act_k13, by decide⟩; exact ⟨by decide, 2, eL_act_k15, by decide⟩) (by decide) (by decide) eL_act_k17 dL_act_234 (by decide) (by decide) dL_act_236 dL_act_238 rfl rfl
set_option maxRecDepth 100000 in
set_option maxHeartbeats 4000000 in
theorem cL_act_carriedAt_v {h : zH} {ad : Nat → Nat} (hI : zI ad zLX.length) (hst : h.1.stackTraces = false) {n : Nat} {v2 : Int32} {v3 : Int32} {r : Int32} {s s9 : zS} (hm : m_X7_carriedAt n v2 s = some (.inl r, s9)) : zMH h ad zLX yL_act wsL_act 9 186 [.ref (ad 0), .int (10 : Int32), .int v2, .int v3] s r s9 := by
  refine z_startH (hh := [(0, 223, 224, 13), (0, 223, 229, 15), (0, 223, 234, 17)]) (cc := cL_act) (nL := 5) (ret := some .int) (own := RL) (by decide +kernel) rfl rfl hI hst (Nat.le_of_ble_eq_true rfl) (fun G C hQ => ?_)
  show zV h ad zLX 5 G s 0 [(0, .ref (ad 0)), (1, .int (10 : Int32)), (2, .int v2), (3, .int v3)] []
  refine z_iload_n C dL_act_0 rfl 1 rfl ?_
  refine z_if_ne (tgt := 13) C dL_act_1 (by decide) (fun _ => ?_) (fun c => absurd c (by decide))
  refine z_iload_n C dL_act_13 rfl 1 rfl ?_
  refine z_iconst (v := (1 : Int32)) C dL_act_14 (by decide) ?_
  refine z_icmp_ne (tgt := 26) C dL_act_15 (by decide) (fun _ => ?_) (fun c => absurd c (by decide))
  refine z_iload_n C dL_act_26 rfl 1 rfl ?_
  refine z_iconst (v := (2 : Int32)) C dL_act_27 (by decide) ?_
  refine z_icmp_ne (tgt := 39) C dL_act_28 (by decide) (fun _ => ?_) (fun c => absurd c (by decide))
  refine z_iload_n C dL_act_39 rfl 1 rfl ?_
  refine z_iconst (v := (3 : Int32)) C dL_act_40 (by decide) ?_
  refine z_icmp_ne (tgt := 53) C dL_act_41 (by decide) (fun _ => ?_) (fun c => absurd c (by decide))
  refine z_iload_n C dL_act_53 rfl 1 rfl ?_
  refine z_iconst (v := (4 : Int32)) C dL_act_54 (by decide) ?_
  refine z_icmp_ne (tgt := 75) C dL_act_55 (by decide) (fun _ => ?_) (fun c => absurd c (by decide))
  refine z_iload_n C dL_act_75 rfl 1 rfl ?_
  refine z_iconst (v := (5 : Int32)) C dL_act_76 (by decide) ?_
  refine z_icmp_ne (tgt := 88) C dL_act_77 (by decide) (fun _ => ?_) (fun c => absurd c (by decide))
  refine z_iload_n C dL_act_88 rfl 1 rfl ?_
  refine z_bipush (v := (6 : Int32)) C dL_act_89 (by decide) ?_
  refine z_icmp_ne (tgt := 103) C dL_act_91 (by decide) (fun _ => ?_) (fun c => absurd c (by decide))
  refine z_iload_n C dL_act_103 rfl 1 rfl ?_
  refine z_bipush (v := (7 : Int32)) C dL_act_104 (by decide) ?_
  refine z_icmp_ne (tgt := 118) C dL_act_106 (by decide) (fun _ => ?_) (fun c => absurd c (by decide))
  refine z_iload_n C dL_act_118 rfl 1 rfl ?_
  refine z_bipush (v := (8 : Int32)) C dL_act_119 (by decide) ?_
  refine z_icmp_ne (tgt := 132) C dL_act_121 (by decide) (fun _ => ?_) (fun c => absurd c (by decide))
  refine z_iload_n C dL_act_132 rfl 1 rfl ?_
  refine z_bipush (v := (9 : Int32)) C dL_act_133 (by decide) ?_
  refine z_icmp_ne (tgt := 147) C dL_act_135 (by decide) (fun _ => ?_) (fun c => absurd c (by decide))
  refine z_iload_n C dL_act_147 rfl 1 rfl ?_
  refine z_bipush (v := (10 : Int32)) C dL_act_148 (by decide) ?_
  refine z_icmp_ne (tgt := 161) C dL_act_150 (by decide) (fun c => absurd (by decide) c) (fun _ => ?_)
  refine z_aload_n C dL_act_153 rfl 0 rfl ?_
  refine z_iload_n C dL_act_154 rfl 2 rfl ?_
  refine z_cV (vd := false) (Cn := RX7) (k := 0) C 1 [.int v2] [] (c_X7_carriedAt (zC_I C) (zC_st C) hm) gL_act_X7_carriedAt (by decide +kernel) kX0 vc7 rfl rfl dL_act_155 rfl ⟨Nat.le_of_ble_eq_true rfl, Nat.le_of_ble_eq_true rfl⟩ rfl (Nat.le_of_ble_eq_true rfl) ?_
  refine z_goto (tgt := 223) C dL_act_158 (by decide) ?_
  exact z_hret C hQ rfl rfl dL_act_223
set_option maxRecDepth 100000 in
set_option maxHeartbeats 4000000 in
theorem cL_act_carriedAt_x1 {h : zH} {ad : Nat → Nat} (hI : zI ad zLX.length) (hst : h.1.stackTraces = false) {n : Nat} {v2 : Int32} {v3 : Int32} {s s9 : zS} (hm : m_X7_carriedAt n v2 s = some (.inr 1, s9)) : zMH h ad zLX yL_act wsL_act 9 186 [.ref (ad 0), .int (10 : Int32), .int v2, .int v3] s (-71 : Int32) s9 := by
  refine z_startH (hh := [(0, 223, 224, 13), (0, 223, 229, 15), (0, 223, 234, 17)]) (cc := cL_act) (nL := 5) (ret := some .int) (own := RL) (by decide +kernel) rfl rfl hI hst (Nat.le_of_ble_eq_true rfl) (fun G C hQ => ?_)
  show zV h ad zLX 5 G s 0 [(0, .ref (ad 0)), (1, .int (10 : Int32)), (2, .int v2), (3, .int v3)] []
  refine z_iload_n C dL_act_0 rfl 1 rfl ?_
  refine z_if_ne (tgt := 13) C dL_act_1 (by decide) (fun _ => ?_) (fun c => absurd c (by decide))
  refine z_iload_n C dL_act_13 rfl 1 rfl ?_
  refine z_iconst (v := (1 : Int32)) C dL_act_14 (by decide) ?_
  refine z_icmp_ne (tgt := 26) C dL_act_15 (by decide) (fun _ => ?_) (fun c => absurd c (by decide))
  refine z_iload_n C dL_act_26 rfl 1 rfl ?_
  refine z_iconst (v := (2 : Int32)) C dL_act_27 (by decide) ?_
  refine z_icmp_ne (tgt := 39) C dL_act_28 (by decide) (fun _ => ?_) (fun c => absurd c (by decide))
  refine z_iload_n C dL_act_39 rfl 1 rfl ?_
  refine z_iconst (v := (3 : Int32)) C dL_act_40 (by decide) ?_
  refine z_icmp_ne (tgt := 53) C dL_act_41 (by decide) (fun _ => ?_) (fun c => absurd c (by decide))
  refine z_iload_n C dL_act_53 rfl 1 rfl ?_
  refine z_iconst (v := (4 : Int32)) C dL_act_54 (by decide) ?_
  refine z_icmp_ne (tgt := 75) C dL_act_55 (by decide) (fun _ => ?_) (fun c => absurd c (by decide))
  refine z_iload_n C dL_act_75 rfl 1 rfl ?_
  refine z_iconst (v := (5 : Int32)) C dL_act_76 (by decide) ?_
  refine z_icmp_ne (tgt := 88) C dL_act_77 (by decide) (fun _ => ?_) (fun c => absurd c (by decide))
  refine z_iload_n C dL_act_88 rfl 1 rfl ?_
  refine z_bipush (v := (6 : Int32)) C dL_act_89 (by decide) ?_
  refine z_icmp_ne (tgt := 103) C dL_act_91 (by decide) (fun _ => ?_) (fun c => absurd c (by decide))
  refine z_iload_n C dL_act_103 rfl 1 rfl ?_
  refine z_bipush (v := (7 : Int32)) C dL_act_104 (by decide) ?_
  refine z_icmp_ne (tgt := 118) C dL_act_106 (by decide) (fun _ => ?_) (fun c => absurd c (by decide))
  refine z_iload_n C dL_act_118 rfl 1 rfl ?_
  refine z_bipush (v := (8 : Int32)) C dL_act_119 (by decide) ?_
  refine z_icmp_ne (tgt := 132) C dL_act_121 (by decide) (fun _ => ?_) (fun c => absurd c (by decide))
  refine z_iload_n C dL_act_132 rfl 1 rfl ?_
  refine z_bipush (v := (9 : Int32)) C dL_act_133 (by decide) ?_
  refine z_icmp_ne (tgt := 147) C dL_act_135 (by decide) (fun _ => ?_) (fun c => absurd c (by decide))
  refine z_iload_n C dL_act_147 rfl 1 rfl ?_
  refine z_bipush (v := (10 : Int32)) C dL_act_148 (by decide) ?_
  refine z_icmp_ne (tgt := 161) C dL_act_150 (by decide) (fun c => absurd (by decide) c) (fun _ => ?_)
  refine z_aload_n C dL_act_153 rfl 0 rfl ?_
  refine z_iload_n C dL_act_154 rfl 2 rfl ?_
  exact z_hv (ex := 1) (vd := false) (Cn := RX7) (k := 0) C 1 [.int v2] [] (c_X7_carriedAt (zC_I C) (zC_st C) hm) hQ gL_act_X7_carriedAt (by decide +kernel) kX0 vc7 rfl rfl dL_act_155 rfl ⟨Nat.le_of_ble_eq_true rfl, Nat.le_of_ble_eq_true rfl⟩ rfl (Nat.le_of_ble_eq_true rfl) [] ⟨0, 223, 224, 13⟩ [⟨0, 223, 229, 15⟩, ⟨0, 223, 234, 17⟩] rfl (fun z hz => absurd hz List.not_mem_nil) (by decide) (by decide) eL_act_k13 dL_act_224 (by decide) (by decide) dL_act_226 dL_act_228 rfl rfl
set_option maxRecDepth 100000 in
set_option maxHeartbeats 4000000 in
theorem cL_act_addCredit_v {h : zH} {ad : Nat → Nat} (hI : zI ad zLX.length) (hst : h.1.stackTraces = false) {n : Nat} {v2 : Int32} {v3 : Int32} {r : Int32} {s s9 : zS} (hm : m_X7_addCredit n v2 v3 s = some (.inl r, s9)) : zMH h ad zLX yL_act wsL_act 9 186 [.ref (ad 0), .int (11 : Int32), .int v2, .int v3] s r s9 := by
  refine z_startH (hh := [(0, 223, 224, 13), (0, 223, 229, 15), (0, 223, 234, 17)]) (cc := cL_act) (nL := 5) (ret := some .int) (own := RL) (by decide +kernel) rfl rfl hI hst (Nat.le_of_ble_eq_true rfl) (fun G C hQ => ?_)
  show zV h ad zLX 5 G s 0 [(0, .ref (ad 0)), (1, .int (11 : Int32)), (2, .int v2), (3, .int v3)] []
  refine z_iload_n C dL_act_0 rfl 1 rfl ?_
  refine z_if_ne (tgt := 13) C dL_act_1 (by decide) (fun _ => ?_) (fun c => absurd c (by decide))
  refine z_iload_n C dL_act_13 rfl 1 rfl ?_
  refine z_iconst (v := (1 : Int32)) C dL_act_14 (by decide) ?_
  refine z_icmp_ne (tgt := 26) C dL_act_15 (by decide) (fun _ => ?_) (fun c => absurd c (by decide))
  refine z_iload_n C dL_act_26 rfl 1 rfl ?_
  refine z_iconst (v := (2 : Int32)) C dL_act_27 (by decide) ?_
  refine z_icmp_ne (tgt := 39) C dL_act_28 (by decide) (fun _ => ?_) (fun c => absurd c (by decide))
  refine z_iload_n C dL_act_39 rfl 1 rfl ?_
  refine z_iconst (v := (3 : Int32)) C dL_act_40 (by decide) ?_
  refine z_icmp_ne (tgt := 53) C dL_act_41 (by decide) (fun _ => ?_) (fun c => absurd c (by decide))
  refine z_iload_n C dL_act_53 rfl 1 rfl ?_
  refine z_iconst (v := (4 : Int32)) C dL_act_54 (by decide) ?_
  refine z_icmp_ne (tgt := 75) C dL_act_55 (by decide) (fun _ => ?_) (fun c => absurd c (by decide))
  refine z_iload_n C dL_act_75 rfl 1 rfl ?_
  refine z_iconst (v := (5 : Int32)) C dL_act_76 (by decide) ?_
  refine z_icmp_ne (tgt := 88) C dL_act_77 (by decide) (fun _ => ?_) (fun c => absurd c (by decide))
  refine z_iload_n C dL_act_88 rfl 1 rfl ?_
  refine z_bipush (v := (6 : Int32)) C dL_act_89 (by decide) ?_
  refine z_icmp_ne (tgt := 103) C dL_act_91 (by decide) (fun _ => ?_) (fun c => absurd c (by decide))
  refine z_iload_n C dL_act_103 rfl 1 rfl ?_
  refine z_bipush (v := (7 : Int32)) C dL_act_104 (by decide) ?_
  refine z_icmp_ne (tgt := 118) C dL_act_106 (by decide) (fun _ => ?_) (fun c => absurd c (by decide))
  refine z_iload_n C dL_act_118 rfl 1 rfl ?_
  refine z_bipush (v := (8 : Int32)) C dL_act_119 (by decide) ?_
  refine z_icmp_ne (tgt := 132) C dL_act_121 (by decide) (fun _ => ?_) (fun c => absurd c (by decide))
  refine z_iload_n C dL_act_132 rfl 1 rfl ?_
  refine z_bipush (v := (9 : Int32)) C dL_act_133 (by decide) ?_
  refine z_icmp_ne (tgt := 147) C dL_act_135 (by decide) (fun _ => ?_) (fun c => absurd c (by decide))
  refine z_iload_n C dL_act_147 rfl 1 rfl ?_
  refine z_bipush (v := (10 : Int32)) C dL_act_148 (by decide) ?_
  refine z_icmp_ne (tgt := 161) C dL_act_150 (by decide) (fun _ => ?_) (fun c => absurd c (by decide))
  refine z_iload_n C dL_act_161 rfl 1 rfl ?_
  refine z_bipush (v := (11 : Int32)) C dL_act_162 (by decide) ?_
  refine z_icmp_ne (tgt := 176) C dL_act_164 (by decide) (fun c => absurd (by decide) c) (fun _ => ?_)
  refine z_aload_n C dL_act_167 rfl 0 rfl ?_
  refine z_iload_n C dL_act_168 rfl 2 rfl ?_
  refine z_iload_n C dL_act_169 rfl 3 rfl ?_
  refine z_cV (vd := false) (Cn := RX7) (k := 0) C 2 [.int v2, .int v3] [] (c_X7_addCredit (zC_I C) (zC_st C) hm) gL_act_X7_addCredit (by decide +kernel) kX0 vc7 rfl rfl dL_act_170 rfl ⟨Nat.le_of_ble_eq_true rfl, Nat.le_of_ble_eq_true rfl⟩ rfl (Nat.le_of_ble_eq_true rfl) ?_
  refine z_goto (tgt := 223) C dL_act_173 (by decide) ?_
  exact z_hret C hQ rfl rfl dL_act_223
set_option maxRecDepth 100000 in
set_option maxHeartbeats 4000000 in
theorem cL_act_addCredit_x2 {h : zH} {ad : Nat → Nat} (hI : zI ad zLX.length) (hst : h.1.stackTraces = false) {n : Nat} {v2 : Int32} {v3 : Int32} {s s9 : zS} (hm : m_X7_addCredit n v2 v3 s = some (.inr 2, s9)) : zMH h ad zLX yL_act wsL_act 9 186 [.ref (ad 0), .int (11 : Int32), .int v2, .int v3] s (-72 : Int32) s9 := by
  refine z_startH (hh := [(0, 223, 224, 13), (0, 223, 229, 15), (0, 223, 234, 17)]) (cc := cL_act) (nL := 5) (ret := some .int) (own := RL) (by decide +kernel) rfl rfl hI hst (Nat.le_of_ble_eq_true rfl) (fun G C hQ => ?_)
  show zV h ad zLX 5 G s 0 [(0, .ref (ad 0)), (1, .int (11 : Int32)), (2, .int v2), (3, .int v3)] []
  refine z_iload_n C dL_act_0 rfl 1 rfl ?_
  refine z_if_ne (tgt := 13) C dL_act_1 (by decide) (fun _ => ?_) (fun c => absurd c (by decide))
  refine z_iload_n C dL_act_13 rfl 1 rfl ?_
  refine z_iconst (v := (1 : Int32)) C dL_act_14 (by decide) ?_
  refine z_icmp_ne (tgt := 26) C dL_act_15 (by decide) (fun _ => ?_) (fun c => absurd c (by decide))
  refine z_iload_n C dL_act_26 rfl 1 rfl ?_
  refine z_iconst (v := (2 : Int32)) C dL_act_27 (by decide) ?_
  refine z_icmp_ne (tgt := 39) C dL_act_28 (by decide) (fun _ => ?_) (fun c => absurd c (by decide))
  refine z_iload_n C dL_act_39 rfl 1 rfl ?_
  refine z_iconst (v := (3 : Int32)) C dL_act_40 (by decide) ?_
  refine z_icmp_ne (tgt := 53) C dL_act_41 (by decide) (fun _ => ?_) (fun c => absurd c (by decide))
  refine z_iload_n C dL_act_53 rfl 1 rfl ?_
  refine z_iconst (v := (4 : Int32)) C dL_act_54 (by decide) ?_
  refine z_icmp_ne (tgt := 75) C dL_act_55 (by decide) (fun _ => ?_) (fun c => absurd c (by decide))
  refine z_iload_n C dL_act_75 rfl 1 rfl ?_
  refine z_iconst (v := (5 : Int32)) C dL_act_76 (by decide) ?_
  refine z_icmp_ne (tgt := 88) C dL_act_77 (by decide) (fun _ => ?_) (fun c => absurd c (by decide))
  refine z_iload_n C dL_act_88 rfl 1 rfl ?_
  refine z_bipush (v := (6 : Int32)) C dL_act_89 (by decide) ?_
  refine z_icmp_ne (tgt := 103) C dL_act_91 (by decide) (fun _ => ?_) (fun c => absurd c (by decide))
  refine z_iload_n C dL_act_103 rfl 1 rfl ?_
  refine z_bipush (v := (7 : Int32)) C dL_act_104 (by decide) ?_
  refine z_icmp_ne (tgt := 118) C dL_act_106 (by decide) (fun _ => ?_) (fun c => absurd c (by decide))
  refine z_iload_n C dL_act_118 rfl 1 rfl ?_
  refine z_bipush (v := (8 : Int32)) C dL_act_119 (by decide) ?_
  refine z_icmp_ne (tgt := 132) C dL_act_121 (by decide) (fun _ => ?_) (fun c => absurd c (by decide))
  refine z_iload_n C dL_act_132 rfl 1 rfl ?_
  refine z_bipush (v := (9 : Int32)) C dL_act_133 (by decide) ?_
  refine z_icmp_ne (tgt := 147) C dL_act_135 (by decide) (fun _ => ?_) (fun c => absurd c (by decide))
  refine z_iload_n C dL_act_147 rfl 1 rfl ?_
  refine z_bipush (v := (10 : Int32)) C dL_act_148 (by decide) ?_
  refine z_icmp_ne (tgt := 161) C dL_act_150 (by decide) (fun _ => ?_) (fun c => absurd c (by decide))
  refine z_iload_n C dL_act_161 rfl 1 rfl ?_
  refine z_bipush (v := (11 : Int32)) C dL_act_162 (by decide) ?_
  refine z_icmp_ne (tgt := 176) C dL_act_164 (by decide) (fun c => absurd (by decide) c) (fun _ => ?_)
  refine z_aload_n C dL_act_167 rfl 0 rfl ?_
  refine z_iload_n C dL_act_168 rfl 2 rfl ?_
  refine z_iload_n C dL_act_169 rfl 3 rfl ?_
  exact z_hv (ex := 2) (vd := false) (Cn := RX7) (k := 0) C 2 [.int v2, .int v3] [] (c_X7_addCredit (zC_I C) (zC_st C) hm) hQ gL_act_X7_addCredit (by decide +kernel) kX0 vc7 rfl rfl dL_act_170 rfl ⟨Nat.le_of_ble_eq_true rfl, Nat.le_of_ble_eq_true rfl⟩ rfl (Nat.le_of_ble_eq_true rfl) [⟨0, 223, 224, 13⟩] ⟨0, 223, 229, 15⟩ [⟨0, 223, 234, 17⟩] rfl (by intro z hz; simp only [List.mem_cons, List.not_mem_nil, or_false] at hz; subst hz; exact ⟨by decide, 1, eL_act_k13, by decide⟩) (by decide) (by decide) eL_act_k15 dL_act_229 (by decide) (by decide) dL_act_231 dL_act_233 rfl rfl
set_option maxRecDepth 100000 in
set_option maxHeartbeats 4000000 in
theorem cL_act_addCredit_x3 {h : zH} {ad : Nat → Nat} (hI : zI ad zLX.length) (hst : h.1.stackTraces = false) {n : Nat} {v2 : Int32} {v3 : Int32} {s s9 : zS} (hm : m_X7_addCredit n v2 v3 s = some (.inr 3, s9)) : zMH h ad zLX yL_act wsL_act 9 186 [.ref (ad 0), .int (11 : Int32), .int v2, .int v3] s (-73 : Int32) s9 := by
  refine z_startH (hh := [(0, 223, 224, 13), (0, 223, 229, 15), (0, 223, 234, 17)]) (cc := cL_act) (nL := 5) (ret := some .int) (own := RL) (by decide +kernel) rfl rfl hI hst (Nat.le_of_ble_eq_true rfl) (fun G C hQ => ?_)
  show zV h ad zLX 5 G s 0 [(0, .ref (ad 0)), (1, .int (11 : Int32)), (2, .int v2), (3, .int v3)] []
  refine z_iload_n C dL_act_0 rfl 1 rfl ?_
  refine z_if_ne (tgt := 13) C dL_act_1 (by decide) (fun _ => ?_) (fun c => absurd c (by decide))
  refine z_iload_n C dL_act_13 rfl 1 rfl ?_
  refine z_iconst (v := (1 : Int32)) C dL_act_14 (by decide) ?_
  refine z_icmp_ne (tgt := 26) C dL_act_15 (by decide) (fun _ => ?_) (fun c => absurd c (by decide))
  refine z_iload_n C dL_act_26 rfl 1 rfl ?_
  refine z_iconst (v := (2 : Int32)) C dL_act_27 (by decide) ?_
  refine z_icmp_ne (tgt := 39) C dL_act_28 (by decide) (fun _ => ?_) (fun c => absurd c (by decide))
  refine z_iload_n C dL_act_39 rfl 1 rfl ?_
  refine z_iconst (v := (3 : Int32)) C dL_act_40 (by decide) ?_
  refine z_icmp_ne (tgt := 53) C dL_act_41 (by decide) (fun _ => ?_) (fun c => absurd c (by decide))
  refine z_iload_n C dL_act_53 rfl 1 rfl ?_
  refine z_iconst (v := (4 : Int32)) C dL_act_54 (by decide) ?_
  refine z_icmp_ne (tgt := 75) C dL_act_55 (by decide) (fun _ => ?_) (fun c => absurd c (by decide))
  refine z_iload_n C dL_act_75 rfl 1 rfl ?_
  refine z_iconst (v := (5 : Int32)) C dL_act_76 (by decide) ?_
  refine z_icmp_ne (tgt := 88) C dL_act_77 (by decide) (fun _ => ?_) (fun c => absurd c (by decide))
  refine z_iload_n C dL_act_88 rfl 1 rfl ?_
  refine z_bipush (v := (6 : Int32)) C dL_act_89 (by decide) ?_
  refine z_icmp_ne (tgt := 103) C dL_act_91 (by decide) (fun _ => ?_) (fun c => absurd c (by decide))
  refine z_iload_n C dL_act_103 rfl 1 rfl ?_
  refine z_bipush (v := (7 : Int32)) C dL_act_104 (by decide) ?_
  refine z_icmp_ne (tgt := 118) C dL_act_106 (by decide) (fun _ => ?_) (fun c => absurd c (by decide))
  refine z_iload_n C dL_act_118 rfl 1 rfl ?_
  refine z_bipush (v := (8 : Int32)) C dL_act_119 (by decide) ?_
  refine z_icmp_ne (tgt := 132) C dL_act_121 (by decide) (fun _ => ?_) (fun c => absurd c (by decide))
  refine z_iload_n C dL_act_132 rfl 1 rfl ?_
  refine z_bipush (v := (9 : Int32)) C dL_act_133 (by decide) ?_
  refine z_icmp_ne (tgt := 147) C dL_act_135 (by decide) (fun _ => ?_) (fun c => absurd c (by decide))
  refine z_iload_n C dL_act_147 rfl 1 rfl ?_
  refine z_bipush (v := (10 : Int32)) C dL_act_148 (by decide) ?_
  refine z_icmp_ne (tgt := 161) C dL_act_150 (by decide) (fun _ => ?_) (fun c => absurd c (by decide))
  refine z_iload_n C dL_act_161 rfl 1 rfl ?_
  refine z_bipush (v := (11 : Int32)) C dL_act_162 (by decide) ?_
  refine z_icmp_ne (tgt := 176) C dL_act_164 (by decide) (fun c => absurd (by decide) c) (fun _ => ?_)
  refine z_aload_n C dL_act_167 rfl 0 rfl ?_
  refine z_iload_n C dL_act_168 rfl 2 rfl ?_
  refine z_iload_n C dL_act_169 rfl 3 rfl ?_
  exact z_hv (ex := 3) (vd := false) (Cn := RX7) (k := 0) C 2 [.int v2, .int v3] [] (c_X7_addCredit (zC_I C) (zC_st C) hm) hQ gL_act_X7_addCredit (by decide +kernel) kX0 vc7 rfl rfl dL_act_170 rfl ⟨Nat.le_of_ble_eq_true rfl, Nat.le_of_ble_eq_true rfl⟩ rfl (Nat.le_of_ble_eq_true rfl) [⟨0, 223, 224, 13⟩, ⟨0, 223, 229, 15⟩] ⟨0, 223, 234, 17⟩ [] rfl (by intro z hz; simp only [List.mem_cons, List.not_mem_nil, or_false] at hz; rcases hz with rfl | rfl; exact ⟨by decide, 1, eL_act_k13, by decide⟩; exact ⟨by decide, 2, eL_act_k15, by decide⟩) (by decide) (by decide) eL_act_k17 dL_act_234 (by decide) (by decide) dL_act_236 dL_act_238 rfl rfl
set_option maxRecDepth 100000 in
set_option maxHeartbeats 4000000 in
theorem cL_act_dropCredit_v {h : zH} {ad : Nat → Nat} (hI : zI ad zLX.length) (hst : h.1.stackTraces = false) {n : Nat} {v2 : Int32} {v3 : Int32} {r : Int32} {s s9 : zS} (hm : m_X7_dropCredit n  s = some (.inl r, s9)) : zMH h ad zLX yL_act wsL_act 9 186 [.ref (ad 0), .int (12 : Int32), .int v2, .int v3] s r s9 := by
  refine z_startH (hh := [(0, 223, 224, 13), (0, 223, 229, 15), (0, 223, 234, 17)]) (cc := cL_act) (nL := 5) (ret := some .int) (own := RL) (by decide +kernel) rfl rfl hI hst (Nat.le_of_ble_eq_true rfl) (fun G C hQ => ?_)
  show zV h ad zLX 5 G s 0 [(0, .ref (ad 0)), (1, .int (12 : Int32)), (2, .int v2), (3, .int v3)] []
  refine z_iload_n C dL_act_0 rfl 1 rfl ?_
  refine z_if_ne (tgt := 13) C dL_act_1 (by decide) (fun _ => ?_) (fun c => absurd c (by decide))
  refine z_iload_n C dL_act_13 rfl 1 rfl ?_
  refine z_iconst (v := (1 : Int32)) C dL_act_14 (by decide) ?_
  refine z_icmp_ne (tgt := 26) C dL_act_15 (by decide) (fun _ => ?_) (fun c => absurd c (by decide))
  refine z_iload_n C dL_act_26 rfl 1 rfl ?_
  refine z_iconst (v := (2 : Int32)) C dL_act_27 (by decide) ?_
  refine z_icmp_ne (tgt := 39) C dL_act_28 (by decide) (fun _ => ?_) (fun c => absurd c (by decide))
  refine z_iload_n C dL_act_39 rfl 1 rfl ?_
  refine z_iconst (v := (3 : Int32)) C dL_act_40 (by decide) ?_
  refine z_icmp_ne (tgt := 53) C dL_act_41 (by decide) (fun _ => ?_) (fun c => absurd c (by decide))
  refine z_iload_n C dL_act_53 rfl 1 rfl ?_
  refine z_iconst (v := (4 : Int32)) C dL_act_54 (by decide) ?_
  refine z_icmp_ne (tgt := 75) C dL_act_55 (by decide) (fun _ => ?_) (fun c => absurd c (by decide))
  refine z_iload_n C dL_act_75 rfl 1 rfl ?_
  refine z_iconst (v := (5 : Int32)) C dL_act_76 (by decide) ?_
  refine z_icmp_ne (tgt := 88) C dL_act_77 (by decide) (fun _ => ?_) (fun c => absurd c (by decide))
  refine z_iload_n C dL_act_88 rfl 1 rfl ?_
  refine z_bipush (v := (6 : Int32)) C dL_act_89 (by decide) ?_
  refine z_icmp_ne (tgt := 103) C dL_act_91 (by decide) (fun _ => ?_) (fun c => absurd c (by decide))
  refine z_iload_n C dL_act_103 rfl 1 rfl ?_
  refine z_bipush (v := (7 : Int32)) C dL_act_104 (by decide) ?_
  refine z_icmp_ne (tgt := 118) C dL_act_106 (by decide) (fun _ => ?_) (fun c => absurd c (by decide))
  refine z_iload_n C dL_act_118 rfl 1 rfl ?_
  refine z_bipush (v := (8 : Int32)) C dL_act_119 (by decide) ?_
  refine z_icmp_ne (tgt := 132) C dL_act_121 (by decide) (fun _ => ?_) (fun c => absurd c (by decide))
  refine z_iload_n C dL_act_132 rfl 1 rfl ?_
  refine z_bipush (v := (9 : Int32)) C dL_act_133 (by decide) ?_
  refine z_icmp_ne (tgt := 147) C dL_act_135 (by decide) (fun _ => ?_) (fun c => absurd c (by decide))
  refine z_iload_n C dL_act_147 rfl 1 rfl ?_
  refine z_bipush (v := (10 : Int32)) C dL_act_148 (by decide) ?_
  refine z_icmp_ne (tgt := 161) C dL_act_150 (by decide) (fun _ => ?_) (fun c => absurd c (by decide))
  refine z_iload_n C dL_act_161 rfl 1 rfl ?_
  refine z_bipush (v := (11 : Int32)) C dL_act_162 (by decide) ?_
  refine z_icmp_ne (tgt := 176) C dL_act_164 (by decide) (fun _ => ?_) (fun c => absurd c (by decide))
  refine z_iload_n C dL_act_176 rfl 1 rfl ?_
  refine z_bipush (v := (12 : Int32)) C dL_act_177 (by decide) ?_
  refine z_icmp_ne (tgt := 189) C dL_act_179 (by decide) (fun c => absurd (by decide) c) (fun _ => ?_)
  refine z_aload_n C dL_act_182 rfl 0 rfl ?_
  refine z_cV (vd := false) (Cn := RX7) (k := 0) C 0 [] [] (c_X7_dropCredit (zC_I C) (zC_st C) hm) gL_act_X7_dropCredit (by decide +kernel) kX0 vc7 rfl rfl dL_act_183 rfl ⟨Nat.le_of_ble_eq_true rfl, Nat.le_of_ble_eq_true rfl⟩ rfl (Nat.le_of_ble_eq_true rfl) ?_
  refine z_goto (tgt := 223) C dL_act_186 (by decide) ?_
  exact z_hret C hQ rfl rfl dL_act_223
set_option maxRecDepth 100000 in
set_option maxHeartbeats 4000000 in
theorem cL_act_dropCredit_x3 {h : zH} {ad : Nat → Nat} (hI : zI ad zLX.length) (hst : h.1.stackTraces = false) {n : Nat} {v2 : Int32} {v3 : Int32} {s s9 : zS} (hm : m_X7_dropCredit n  s = some (.inr 3, s9)) : zMH h ad zLX yL_act wsL_act 9 186 [.ref (ad 0), .int (12 : Int32), .int v2, .int v3] s (-73 : Int32) s9 := by
  refine z_startH (hh := [(0, 223, 224, 13), (0, 223, 229, 15), (0, 223, 234, 17)]) (cc := cL_act) (nL := 5) (ret := some .int) (own := RL) (by decide +kernel) rfl rfl hI hst (Nat.le_of_ble_eq_true rfl) (fun G C hQ => ?_)
  show zV h ad zLX 5 G s 0 [(0, .ref (ad 0)), (1, .int (12 : Int32)), (2, .int v2), (3, .int v3)] []
  refine z_iload_n C dL_act_0 rfl 1 rfl ?_
  refine z_if_ne (tgt := 13) C dL_act_1 (by decide) (fun _ => ?_) (fun c => absurd c (by decide))
  refine z_iload_n C dL_act_13 rfl 1 rfl ?_
  refine z_iconst (v := (1 : Int32)) C dL_act_14 (by decide) ?_
  refine z_icmp_ne (tgt := 26) C dL_act_15 (by decide) (fun _ => ?_) (fun c => absurd c (by decide))
  refine z_iload_n C dL_act_26 rfl 1 rfl ?_
  refine z_iconst (v := (2 : Int32)) C dL_act_27 (by decide) ?_
  refine z_icmp_ne (tgt := 39) C dL_act_28 (by decide) (fun _ => ?_) (fun c => absurd c (by decide))
  refine z_iload_n C dL_act_39 rfl 1 rfl ?_
  refine z_iconst (v := (3 : Int32)) C dL_act_40 (by decide) ?_
  refine z_icmp_ne (tgt := 53) C dL_act_41 (by decide) (fun _ => ?_) (fun c => absurd c (by decide))
  refine z_iload_n C dL_act_53 rfl 1 rfl ?_
  refine z_iconst (v := (4 : Int32)) C dL_act_54 (by decide) ?_
  refine z_icmp_ne (tgt := 75) C dL_act_55 (by decide) (fun _ => ?_) (fun c => absurd c (by decide))
  refine z_iload_n C dL_act_75 rfl 1 rfl ?_
  refine z_iconst (v := (5 : Int32)) C dL_act_76 (by decide) ?_
  refine z_icmp_ne (tgt := 88) C dL_act_77 (by decide) (fun _ => ?_) (fun c => absurd c (by decide))
  refine z_iload_n C dL_act_88 rfl 1 rfl ?_
  refine z_bipush (v := (6 : Int32)) C dL_act_89 (by decide) ?_
  refine z_icmp_ne (tgt := 103) C dL_act_91 (by decide) (fun _ => ?_) (fun c => absurd c (by decide))
  refine z_iload_n C dL_act_103 rfl 1 rfl ?_
  refine z_bipush (v := (7 : Int32)) C dL_act_104 (by decide) ?_
  refine z_icmp_ne (tgt := 118) C dL_act_106 (by decide) (fun _ => ?_) (fun c => absurd c (by decide))
  refine z_iload_n C dL_act_118 rfl 1 rfl ?_
  refine z_bipush (v := (8 : Int32)) C dL_act_119 (by decide) ?_
  refine z_icmp_ne (tgt := 132) C dL_act_121 (by decide) (fun _ => ?_) (fun c => absurd c (by decide))
  refine z_iload_n C dL_act_132 rfl 1 rfl ?_
  refine z_bipush (v := (9 : Int32)) C dL_act_133 (by decide) ?_
  refine z_icmp_ne (tgt := 147) C dL_act_135 (by decide) (fun _ => ?_) (fun c => absurd c (by decide))
  refine z_iload_n C dL_act_147 rfl 1 rfl ?_
  refine z_bipush (v := (10 : Int32)) C dL_act_148 (by decide) ?_
  refine z_icmp_ne (tgt := 161) C dL_act_150 (by decide) (fun _ => ?_) (fun c => absurd c (by decide))
  refine z_iload_n C dL_act_161 rfl 1 rfl ?_
  refine z_bipush (v := (11 : Int32)) C dL_act_162 (by decide) ?_
  refine z_icmp_ne (tgt := 176) C dL_act_164 (by decide) (fun _ => ?_) (fun c => absurd c (by decide))
  refine z_iload_n C dL_act_176 rfl 1 rfl ?_
  refine z_bipush (v := (12 : Int32)) C dL_act_177 (by decide) ?_
  refine z_icmp_ne (tgt := 189) C dL_act_179 (by decide) (fun c => absurd (by decide) c) (fun _ => ?_)
  refine z_aload_n C dL_act_182 rfl 0 rfl ?_
  exact z_hv (ex := 3) (vd := false) (Cn := RX7) (k := 0) C 0 [] [] (c_X7_dropCredit (zC_I C) (zC_st C) hm) hQ gL_act_X7_dropCredit (by decide +kernel) kX0 vc7 rfl rfl dL_act_183 rfl ⟨Nat.le_of_ble_eq_true rfl, Nat.le_of_ble_eq_true rfl⟩ rfl (Nat.le_of_ble_eq_true rfl) [⟨0, 223, 224, 13⟩, ⟨0, 223, 229, 15⟩] ⟨0, 223, 234, 17⟩ [] rfl (by intro z hz; simp only [List.mem_cons, List.not_mem_nil, or_false] at hz; rcases hz with rfl | rfl; exact ⟨by decide, 1, eL_act_k13, by decide⟩; exact ⟨by decide, 2, eL_act_k15, by decide⟩) (by decide) (by decide) eL_act_k17 dL_act_234 (by decide) (by decide) dL_act_236 dL_act_238 rfl rfl
set_option maxRecDepth 100000 in
set_option maxHeartbeats 4000000 in
theorem cL_act_creditAt_v {h : zH} {ad : Nat → Nat} (hI : zI ad zLX.length) (hst : h.1.stackTraces = false) {n : Nat} {v2 : Int32} {v3 : Int32} {r : Int32} {s s9 : zS} (hm : m_X7_creditAt n v2 v3 s = some (.inl r, s9)) : zMH h ad zLX yL_act wsL_act 9 186 [.ref (ad 0), .int (13 : Int32), .int v2, .int v3] s r s9 := by
  refine z_startH (hh := [(0, 223, 224, 13), (0, 223, 229, 15), (0, 223, 234, 17)]) (cc := cL_act) (nL := 5) (ret := some .int) (own := RL) (by decide +kernel) rfl rfl hI hst (Nat.le_of_ble_eq_true rfl) (fun G C hQ => ?_)
  show zV h ad zLX 5 G s 0 [(0, .ref (ad 0)), (1, .int (13 : Int32)), (2, .int v2), (3, .int v3)] []
  refine z_iload_n C dL_act_0 rfl 1 rfl ?_
  refine z_if_ne (tgt := 13) C dL_act_1 (by decide) (fun _ => ?_) (fun c => absurd c (by decide))
  refine z_iload_n C dL_act_13 rfl 1 rfl ?_
  refine z_iconst (v := (1 : Int32)) C dL_act_14 (by decide) ?_
  refine z_icmp_ne (tgt := 26) C dL_act_15 (by decide) (fun _ => ?_) (fun c => absurd c (by decide))
  refine z_iload_n C dL_act_26 rfl 1 rfl ?_
  refine z_iconst (v := (2 : Int32)) C dL_act_27 (by decide) ?_
  refine z_icmp_ne (tgt := 39) C dL_act_28 (by decide) (fun _ => ?_) (fun c => absurd c (by decide))
  refine z_iload_n C dL_act_39 rfl 1 rfl ?_
  refine z_iconst (v := (3 : Int32)) C dL_act_40 (by decide) ?_
  refine z_icmp_ne (tgt := 53) C dL_act_41 (by decide) (fun _ => ?_) (fun c => absurd c (by decide))
  refine z_iload_n C dL_act_53 rfl 1 rfl ?_
  refine z_iconst (v := (4 : Int32)) C dL_act_54 (by decide) ?_
  refine z_icmp_ne (tgt := 75) C dL_act_55 (by decide) (fun _ => ?_) (fun c => absurd c (by decide))
  refine z_iload_n C dL_act_75 rfl 1 rfl ?_
  refine z_iconst (v := (5 : Int32)) C dL_act_76 (by decide) ?_
  refine z_icmp_ne (tgt := 88) C dL_act_77 (by decide) (fun _ => ?_) (fun c => absurd c (by decide))
  refine z_iload_n C dL_act_88 rfl 1 rfl ?_
  refine z_bipush (v := (6 : Int32)) C dL_act_89 (by decide) ?_
  refine z_icmp_ne (tgt := 103) C dL_act_91 (by decide) (fun _ => ?_) (fun c => absurd c (by decide))
  refine z_iload_n C dL_act_103 rfl 1 rfl ?_
  refine z_bipush (v := (7 : Int32)) C dL_act_104 (by decide) ?_
  refine z_icmp_ne (tgt := 118) C dL_act_106 (by decide) (fun _ => ?_) (fun c => absurd c (by decide))
  refine z_iload_n C dL_act_118 rfl 1 rfl ?_
  refine z_bipush (v := (8 : Int32)) C dL_act_119 (by decide) ?_
  refine z_icmp_ne (tgt := 132) C dL_act_121 (by decide) (fun _ => ?_) (fun c => absurd c (by decide))
  refine z_iload_n C dL_act_132 rfl 1 rfl ?_
  refine z_bipush (v := (9 : Int32)) C dL_act_133 (by decide) ?_
  refine z_icmp_ne (tgt := 147) C dL_act_135 (by decide) (fun _ => ?_) (fun c => absurd c (by decide))
  refine z_iload_n C dL_act_147 rfl 1 rfl ?_
  refine z_bipush (v := (10 : Int32)) C dL_act_148 (by decide) ?_
  refine z_icmp_ne (tgt := 161) C dL_act_150 (by decide) (fun _ => ?_) (fun c => absurd c (by decide))
  refine z_iload_n C dL_act_161 rfl 1 rfl ?_
  refine z_bipush (v := (11 : Int32)) C dL_act_162 (by decide) ?_
  refine z_icmp_ne (tgt := 176) C dL_act_164 (by decide) (fun _ => ?_) (fun c => absurd c (by decide))
  refine z_iload_n C dL_act_176 rfl 1 rfl ?_
  refine z_bipush (v := (12 : Int32)) C dL_act_177 (by decide) ?_
  refine z_icmp_ne (tgt := 189) C dL_act_179 (by decide) (fun _ => ?_) (fun c => absurd c (by decide))
  refine z_iload_n C dL_act_189 rfl 1 rfl ?_
  refine z_bipush (v := (13 : Int32)) C dL_act_190 (by decide) ?_
  refine z_icmp_ne (tgt := 204) C dL_act_192 (by decide) (fun c => absurd (by decide) c) (fun _ => ?_)
  refine z_aload_n C dL_act_195 rfl 0 rfl ?_
  refine z_iload_n C dL_act_196 rfl 2 rfl ?_
  refine z_iload_n C dL_act_197 rfl 3 rfl ?_
  refine z_cV (vd := false) (Cn := RX7) (k := 0) C 2 [.int v2, .int v3] [] (c_X7_creditAt (zC_I C) (zC_st C) hm) gL_act_X7_creditAt (by decide +kernel) kX0 vc7 rfl rfl dL_act_198 rfl ⟨Nat.le_of_ble_eq_true rfl, Nat.le_of_ble_eq_true rfl⟩ rfl (Nat.le_of_ble_eq_true rfl) ?_
  refine z_goto (tgt := 223) C dL_act_201 (by decide) ?_
  exact z_hret C hQ rfl rfl dL_act_223
set_option maxRecDepth 100000 in
set_option maxHeartbeats 4000000 in
theorem cL_act_creditAt_x1 {h : zH} {ad : Nat → Nat} (hI : zI ad zLX.length) (hst : h.1.stackTraces = false) {n : Nat} {v2 : Int32} {v3 : Int32} {s s9 : zS} (hm : m_X7_creditAt n v2 v3 s = some (.inr 1, s9)) : zMH h ad zLX yL_act wsL_act 9 186 [.ref (ad 0), .int (13 : Int32), .int v2, .int v3] s (-71 : Int32) s9 := by
  refine z_startH (hh := [(0, 223, 224, 13), (0, 223, 229, 15), (0, 223, 234, 17)]) (cc := cL_act) (nL := 5) (ret := some .int) (own := RL) (by decide +kernel) rfl rfl hI hst (Nat.le_of_ble_eq_true rfl) (fun G C hQ => ?_)
  show zV h ad zLX 5 G s 0 [(0, .ref (ad 0)), (1, .int (13 : Int32)), (2, .int v2), (3, .int v3)] []
  refine z_iload_n C dL_act_0 rfl 1 rfl ?_
  refine z_if_ne (tgt := 13) C dL_act_1 (by decide) (fun _ => ?_) (fun c => absurd c (by decide))
  refine z_iload_n C dL_act_13 rfl 1 rfl ?_
  refine z_iconst (v := (1 : Int32)) C dL_act_14 (by decide) ?_
  refine z_icmp_ne (tgt := 26) C dL_act_15 (by decide) (fun _ => ?_) (fun c => absurd c (by decide))
  refine z_iload_n C dL_act_26 rfl 1 rfl ?_
  refine z_iconst (v := (2 : Int32)) C dL_act_27 (by decide) ?_
  refine z_icmp_ne (tgt := 39) C dL_act_28 (by decide) (fun _ => ?_) (fun c => absurd c (by decide))
  refine z_iload_n C dL_act_39 rfl 1 rfl ?_
  refine z_iconst (v := (3 : Int32)) C dL_act_40 (by decide) ?_
  refine z_icmp_ne (tgt := 53) C dL_act_41 (by decide) (fun _ => ?_) (fun c => absurd c (by decide))
  refine z_iload_n C dL_act_53 rfl 1 rfl ?_
  refine z_iconst (v := (4 : Int32)) C dL_act_54 (by decide) ?_
  refine z_icmp_ne (tgt := 75) C dL_act_55 (by decide) (fun _ => ?_) (fun c => absurd c (by decide))
  refine z_iload_n C dL_act_75 rfl 1 rfl ?_
  refine z_iconst (v := (5 : Int32)) C dL_act_76 (by decide) ?_
  refine z_icmp_ne (tgt := 88) C dL_act_77 (by decide) (fun _ => ?_) (fun c => absurd c (by decide))
  refine z_iload_n C dL_act_88 rfl 1 rfl ?_
  refine z_bipush (v := (6 : Int32)) C dL_act_89 (by decide) ?_
  refine z_icmp_ne (tgt := 103) C dL_act_91 (by decide) (fun _ => ?_) (fun c => absurd c (by decide))
  refine z_iload_n C dL_act_103 rfl 1 rfl ?_
  refine z_bipush (v := (7 : Int32)) C dL_act_104 (by decide) ?_
  refine z_icmp_ne (tgt := 118) C dL_act_106 (by decide) (fun _ => ?_) (fun c => absurd c (by decide))
  refine z_iload_n C dL_act_118 rfl 1 rfl ?_
  refine z_bipush (v := (8 : Int32)) C dL_act_119 (by decide) ?_
  refine z_icmp_ne (tgt := 132) C dL_act_121 (by decide) (fun _ => ?_) (fun c => absurd c (by decide))
  refine z_iload_n C dL_act_132 rfl 1 rfl ?_
  refine z_bipush (v := (9 : Int32)) C dL_act_133 (by decide) ?_
  refine z_icmp_ne (tgt := 147) C dL_act_135 (by decide) (fun _ => ?_) (fun c => absurd c (by decide))
  refine z_iload_n C dL_act_147 rfl 1 rfl ?_
  refine z_bipush (v := (10 : Int32)) C dL_act_148 (by decide) ?_
  refine z_icmp_ne (tgt := 161) C dL_act_150 (by decide) (fun _ => ?_) (fun c => absurd c (by decide))
  refine z_iload_n C dL_act_161 rfl 1 rfl ?_
  refine z_bipush (v := (11 : Int32)) C dL_act_162 (by decide) ?_
  refine z_icmp_ne (tgt := 176) C dL_act_164 (by decide) (fun _ => ?_) (fun c => absurd c (by decide))
  refine z_iload_n C dL_act_176 rfl 1 rfl ?_
  refine z_bipush (v := (12 : Int32)) C dL_act_177 (by decide) ?_
  refine z_icmp_ne (tgt := 189) C dL_act_179 (by decide) (fun _ => ?_) (fun c => absurd c (by decide))
  refine z_iload_n C dL_act_189 rfl 1 rfl ?_
  refine z_bipush (v := (13 : Int32)) C dL_act_190 (by decide) ?_
  refine z_icmp_ne (tgt := 204) C dL_act_192 (by decide) (fun c => absurd (by decide) c) (fun _ => ?_)
  refine z_aload_n C dL_act_195 rfl 0 rfl ?_
  refine z_iload_n C dL_act_196 rfl 2 rfl ?_
  refine z_iload_n C dL_act_197 rfl 3 rfl ?_
  exact z_hv (ex := 1) (vd := false) (Cn := RX7) (k := 0) C 2 [.int v2, .int v3] [] (c_X7_creditAt (zC_I C) (zC_st C) hm) hQ gL_act_X7_creditAt (by decide +kernel) kX0 vc7 rfl rfl dL_act_198 rfl ⟨Nat.le_of_ble_eq_true rfl, Nat.le_of_ble_eq_true rfl⟩ rfl (Nat.le_of_ble_eq_true rfl) [] ⟨0, 223, 224, 13⟩ [⟨0, 223, 229, 15⟩, ⟨0, 223, 234, 17⟩] rfl (fun z hz => absurd hz List.not_mem_nil) (by decide) (by decide) eL_act_k13 dL_act_224 (by decide) (by decide) dL_act_226 dL_act_228 rfl rfl
set_option maxRecDepth 100000 in
set_option maxHeartbeats 4000000 in
theorem cL_act_afterCredits_v {h : zH} {ad : Nat → Nat} (hI : zI ad zLX.length) (hst : h.1.stackTraces = false) {n : Nat} {v2 : Int32} {v3 : Int32} {r : Int32} {s s9 : zS} (hm : m_X7_afterCredits n v2 s = some (.inl r, s9)) : zMH h ad zLX yL_act wsL_act 9 186 [.ref (ad 0), .int (14 : Int32), .int v2, .int v3] s r s9 := by
  refine z_startH (hh := [(0, 223, 224, 13), (0, 223, 229, 15), (0, 223, 234, 17)]) (cc := cL_act) (nL := 5) (ret := some .int) (own := RL) (by decide +kernel) rfl rfl hI hst (Nat.le_of_ble_eq_true rfl) (fun G C hQ => ?_)
  show zV h ad zLX 5 G s 0 [(0, .ref (ad 0)), (1, .int (14 : Int32)), (2, .int v2), (3, .int v3)] []
  refine z_iload_n C dL_act_0 rfl 1 rfl ?_
  refine z_if_ne (tgt := 13) C dL_act_1 (by decide) (fun _ => ?_) (fun c => absurd c (by decide))
  refine z_iload_n C dL_act_13 rfl 1 rfl ?_
  refine z_iconst (v := (1 : Int32)) C dL_act_14 (by decide) ?_
  refine z_icmp_ne (tgt := 26) C dL_act_15 (by decide) (fun _ => ?_) (fun c => absurd c (by decide))
  refine z_iload_n C dL_act_26 rfl 1 rfl ?_
  refine z_iconst (v := (2 : Int32)) C dL_act_27 (by decide) ?_
  refine z_icmp_ne (tgt := 39) C dL_act_28 (by decide) (fun _ => ?_) (fun c => absurd c (by decide))
  refine z_iload_n C dL_act_39 rfl 1 rfl ?_
  refine z_iconst (v := (3 : Int32)) C dL_act_40 (by decide) ?_
  refine z_icmp_ne (tgt := 53) C dL_act_41 (by decide) (fun _ => ?_) (fun c => absurd c (by decide))
  refine z_iload_n C dL_act_53 rfl 1 rfl ?_
  refine z_iconst (v := (4 : Int32)) C dL_act_54 (by decide) ?_
  refine z_icmp_ne (tgt := 75) C dL_act_55 (by decide) (fun _ => ?_) (fun c => absurd c (by decide))
  refine z_iload_n C dL_act_75 rfl 1 rfl ?_
  refine z_iconst (v := (5 : Int32)) C dL_act_76 (by decide) ?_
  refine z_icmp_ne (tgt := 88) C dL_act_77 (by decide) (fun _ => ?_) (fun c => absurd c (by decide))
  refine z_iload_n C dL_act_88 rfl 1 rfl ?_
  refine z_bipush (v := (6 : Int32)) C dL_act_89 (by decide) ?_
  refine z_icmp_ne (tgt := 103) C dL_act_91 (by decide) (fun _ => ?_) (fun c => absurd c (by decide))
  refine z_iload_n C dL_act_103 rfl 1 rfl ?_
  refine z_bipush (v := (7 : Int32)) C dL_act_104 (by decide) ?_
  refine z_icmp_ne (tgt := 118) C dL_act_106 (by decide) (fun _ => ?_) (fun c => absurd c (by decide))
  refine z_iload_n C dL_act_118 rfl 1 rfl ?_
  refine z_bipush (v := (8 : Int32)) C dL_act_119 (by decide) ?_
  refine z_icmp_ne (tgt := 132) C dL_act_121 (by decide) (fun _ => ?_) (fun c => absurd c (by decide))
  refine z_iload_n C dL_act_132 rfl 1 rfl ?_
  refine z_bipush (v := (9 : Int32)) C dL_act_133 (by decide) ?_
  refine z_icmp_ne (tgt := 147) C dL_act_135 (by decide) (fun _ => ?_) (fun c => absurd c (by decide))
  refine z_iload_n C dL_act_147 rfl 1 rfl ?_
  refine z_bipush (v := (10 : Int32)) C dL_act_148 (by decide) ?_
  refine z_icmp_ne (tgt := 161) C dL_act_150 (by decide) (fun _ => ?_) (fun c => absurd c (by decide))
  refine z_iload_n C dL_act_161 rfl 1 rfl ?_
  refine z_bipush (v := (11 : Int32)) C dL_act_162 (by decide) ?_
  refine z_icmp_ne (tgt := 176) C dL_act_164 (by decide) (fun _ => ?_) (fun c => absurd c (by decide))
  refine z_iload_n C dL_act_176 rfl 1 rfl ?_
  refine z_bipush (v := (12 : Int32)) C dL_act_177 (by decide) ?_
  refine z_icmp_ne (tgt := 189) C dL_act_179 (by decide) (fun _ => ?_) (fun c => absurd c (by decide))
  refine z_iload_n C dL_act_189 rfl 1 rfl ?_
  refine z_bipush (v := (13 : Int32)) C dL_act_190 (by decide) ?_
  refine z_icmp_ne (tgt := 204) C dL_act_192 (by decide) (fun _ => ?_) (fun c => absurd c (by decide))
  refine z_iload_n C dL_act_204 rfl 1 rfl ?_
  refine z_bipush (v := (14 : Int32)) C dL_act_205 (by decide) ?_
  refine z_icmp_ne (tgt := 218) C dL_act_207 (by decide) (fun c => absurd (by decide) c) (fun _ => ?_)
  refine z_aload_n C dL_act_210 rfl 0 rfl ?_
  refine z_iload_n C dL_act_211 rfl 2 rfl ?_
  refine z_cV (vd := false) (Cn := RX7) (k := 0) C 1 [.int v2] [] (c_X7_afterCredits (zC_I C) (zC_st C) hm) gL_act_X7_afterCredits (by decide +kernel) kX0 vc7 rfl rfl dL_act_212 rfl ⟨Nat.le_of_ble_eq_true rfl, Nat.le_of_ble_eq_true rfl⟩ rfl (Nat.le_of_ble_eq_true rfl) ?_
  refine z_goto (tgt := 223) C dL_act_215 (by decide) ?_
  exact z_hret C hQ rfl rfl dL_act_223
set_option maxRecDepth 100000 in
set_option maxHeartbeats 4000000 in
theorem cL_act_afterCredits_x1 {h : zH} {ad : Nat → Nat} (hI : zI ad zLX.length) (hst : h.1.stackTraces = false) {n : Nat} {v2 : Int32} {v3 : Int32} {s s9 : zS} (hm : m_X7_afterCredits n v2 s = some (.inr 1, s9)) : zMH h ad zLX yL_act wsL_act 9 186 [.ref (ad 0), .int (14 : Int32), .int v2, .int v3] s (-71 : Int32) s9 := by
  refine z_startH (hh := [(0, 223, 224, 13), (0, 223, 229, 15), (0, 223, 234, 17)]) (cc := cL_act) (nL := 5) (ret := some .int) (own := RL) (by decide +kernel) rfl rfl hI hst (Nat.le_of_ble_eq_true rfl) (fun G C hQ => ?_)
  show zV h ad zLX 5 G s 0 [(0, .ref (ad 0)), (1, .int (14 : Int32)), (2, .int v2), (3, .int v3)] []
  refine z_iload_n C dL_act_0 rfl 1 rfl ?_
  refine z_if_ne (tgt := 13) C dL_act_1 (by decide) (fun _ => ?_) (fun c => absurd c (by decide))
  refine z_iload_n C dL_act_13 rfl 1 rfl ?_
  refine z_iconst (v := (1 : Int32)) C dL_act_14 (by decide) ?_
  refine z_icmp_ne (tgt := 26) C dL_act_15 (by decide) (fun _ => ?_) (fun c => absurd c (by decide))
  refine z_iload_n C dL_act_26 rfl 1 rfl ?_
  refine z_iconst (v := (2 : Int32)) C dL_act_27 (by decide) ?_
  refine z_icmp_ne (tgt := 39) C dL_act_28 (by decide) (fun _ => ?_) (fun c => absurd c (by decide))
  refine z_iload_n C dL_act_39 rfl 1 rfl ?_
  refine z_iconst (v := (3 : Int32)) C dL_act_40 (by decide) ?_
  refine z_icmp_ne (tgt := 53) C dL_act_41 (by decide) (fun _ => ?_) (fun c => absurd c (by decide))
  refine z_iload_n C dL_act_53 rfl 1 rfl ?_
  refine z_iconst (v := (4 : Int32)) C dL_act_54 (by decide) ?_
  refine z_icmp_ne (tgt := 75) C dL_act_55 (by decide) (fun _ => ?_) (fun c => absurd c (by decide))
  refine z_iload_n C dL_act_75 rfl 1 rfl ?_
  refine z_iconst (v := (5 : Int32)) C dL_act_76 (by decide) ?_
  refine z_icmp_ne (tgt := 88) C dL_act_77 (by decide) (fun _ => ?_) (fun c => absurd c (by decide))
  refine z_iload_n C dL_act_88 rfl 1 rfl ?_
  refine z_bipush (v := (6 : Int32)) C dL_act_89 (by decide) ?_
  refine z_icmp_ne (tgt := 103) C dL_act_91 (by decide) (fun _ => ?_) (fun c => absurd c (by decide))
  refine z_iload_n C dL_act_103 rfl 1 rfl ?_
  refine z_bipush (v := (7 : Int32)) C dL_act_104 (by decide) ?_
  refine z_icmp_ne (tgt := 118) C dL_act_106 (by decide) (fun _ => ?_) (fun c => absurd c (by decide))
  refine z_iload_n C dL_act_118 rfl 1 rfl ?_
  refine z_bipush (v := (8 : Int32)) C dL_act_119 (by decide) ?_
  refine z_icmp_ne (tgt := 132) C dL_act_121 (by decide) (fun _ => ?_) (fun c => absurd c (by decide))
  refine z_iload_n C dL_act_132 rfl 1 rfl ?_
  refine z_bipush (v := (9 : Int32)) C dL_act_133 (by decide) ?_
  refine z_icmp_ne (tgt := 147) C dL_act_135 (by decide) (fun _ => ?_) (fun c => absurd c (by decide))
  refine z_iload_n C dL_act_147 rfl 1 rfl ?_
  refine z_bipush (v := (10 : Int32)) C dL_act_148 (by decide) ?_
  refine z_icmp_ne (tgt := 161) C dL_act_150 (by decide) (fun _ => ?_) (fun c => absurd c (by decide))
  refine z_iload_n C dL_act_161 rfl 1 rfl ?_
  refine z_bipush (v := (11 : Int32)) C dL_act_162 (by decide) ?_
  refine z_icmp_ne (tgt := 176) C dL_act_164 (by decide) (fun _ => ?_) (fun c => absurd c (by decide))
  refine z_iload_n C dL_act_176 rfl 1 rfl ?_
  refine z_bipush (v := (12 : Int32)) C dL_act_177 (by decide) ?_
  refine z_icmp_ne (tgt := 189) C dL_act_179 (by decide) (fun _ => ?_) (fun c => absurd c (by decide))
  refine z_iload_n C dL_act_189 rfl 1 rfl ?_
  refine z_bipush (v := (13 : Int32)) C dL_act_190 (by decide) ?_
  refine z_icmp_ne (tgt := 204) C dL_act_192 (by decide) (fun _ => ?_) (fun c => absurd c (by decide))
  refine z_iload_n C dL_act_204 rfl 1 rfl ?_
  refine z_bipush (v := (14 : Int32)) C dL_act_205 (by decide) ?_
  refine z_icmp_ne (tgt := 218) C dL_act_207 (by decide) (fun c => absurd (by decide) c) (fun _ => ?_)
  refine z_aload_n C dL_act_210 rfl 0 rfl ?_
  refine z_iload_n C dL_act_211 rfl 2 rfl ?_
  exact z_hv (ex := 1) (vd := false) (Cn := RX7) (k := 0) C 1 [.int v2] [] (c_X7_afterCredits (zC_I C) (zC_st C) hm) hQ gL_act_X7_afterCredits (by decide +kernel) kX0 vc7 rfl rfl dL_act_212 rfl ⟨Nat.le_of_ble_eq_true rfl, Nat.le_of_ble_eq_true rfl⟩ rfl (Nat.le_of_ble_eq_true rfl) [] ⟨0, 223, 224, 13⟩ [⟨0, 223, 229, 15⟩, ⟨0, 223, 234, 17⟩] rfl (fun z hz => absurd hz List.not_mem_nil) (by decide) (by decide) eL_act_k13 dL_act_224 (by decide) (by decide) dL_act_226 dL_act_228 rfl rfl
set_option maxRecDepth 100000 in
set_option maxHeartbeats 4000000 in
theorem cL_act_bestSum_v {h : zH} {ad : Nat → Nat} (hI : zI ad zLX.length) (hst : h.1.stackTraces = false) {n : Nat} {v2 : Int32} {v3 : Int32} {r : Int32} {s s9 : zS} (hm : m_X7_bestSum n v2 s = some (.inl r, s9)) : zMH h ad zLX yL_act wsL_act 9 186 [.ref (ad 0), .int (15 : Int32), .int v2, .int v3] s r s9 := by
  refine z_startH (hh := [(0, 223, 224, 13), (0, 223, 229, 15), (0, 223, 234, 17)]) (cc := cL_act) (nL := 5) (ret := some .int) (own := RL) (by decide +kernel) rfl rfl hI hst (Nat.le_of_ble_eq_true rfl) (fun G C hQ => ?_)
  show zV h ad zLX 5 G s 0 [(0, .ref (ad 0)), (1, .int (15 : Int32)), (2, .int v2), (3, .int v3)] []
  refine z_iload_n C dL_act_0 rfl 1 rfl ?_
  refine z_if_ne (tgt := 13) C dL_act_1 (by decide) (fun _ => ?_) (fun c => absurd c (by decide))
  refine z_iload_n C dL_act_13 rfl 1 rfl ?_
  refine z_iconst (v := (1 : Int32)) C dL_act_14 (by decide) ?_
  refine z_icmp_ne (tgt := 26) C dL_act_15 (by decide) (fun _ => ?_) (fun c => absurd c (by decide))
  refine z_iload_n C dL_act_26 rfl 1 rfl ?_
  refine z_iconst (v := (2 : Int32)) C dL_act_27 (by decide) ?_
  refine z_icmp_ne (tgt := 39) C dL_act_28 (by decide) (fun _ => ?_) (fun c => absurd c (by decide))
  refine z_iload_n C dL_act_39 rfl 1 rfl ?_
  refine z_iconst (v := (3 : Int32)) C dL_act_40 (by decide) ?_
  refine z_icmp_ne (tgt := 53) C dL_act_41 (by decide) (fun _ => ?_) (fun c => absurd c (by decide))
  refine z_iload_n C dL_act_53 rfl 1 rfl ?_
  refine z_iconst (v := (4 : Int32)) C dL_act_54 (by decide) ?_
  refine z_icmp_ne (tgt := 75) C dL_act_55 (by decide) (fun _ => ?_) (fun c => absurd c (by decide))
  refine z_iload_n C dL_act_75 rfl 1 rfl ?_
  refine z_iconst (v := (5 : Int32)) C dL_act_76 (by decide) ?_
  refine z_icmp_ne (tgt := 88) C dL_act_77 (by decide) (fun _ => ?_) (fun c => absurd c (by decide))
  refine z_iload_n C dL_act_88 rfl 1 rfl ?_
  refine z_bipush (v := (6 : Int32)) C dL_act_89 (by decide) ?_
  refine z_icmp_ne (tgt := 103) C dL_act_91 (by decide) (fun _ => ?_) (fun c => absurd c (by decide))
  refine z_iload_n C dL_act_103 rfl 1 rfl ?_
  refine z_bipush (v := (7 : Int32)) C dL_act_104 (by decide) ?_
  refine z_icmp_ne (tgt := 118) C dL_act_106 (by decide) (fun _ => ?_) (fun c => absurd c (by decide))
  refine z_iload_n C dL_act_118 rfl 1 rfl ?_
  refine z_bipush (v := (8 : Int32)) C dL_act_119 (by decide) ?_
  refine z_icmp_ne (tgt := 132) C dL_act_121 (by decide) (fun _ => ?_) (fun c => absurd c (by decide))
  refine z_iload_n C dL_act_132 rfl 1 rfl ?_
  refine z_bipush (v := (9 : Int32)) C dL_act_133 (by decide) ?_
  refine z_icmp_ne (tgt := 147) C dL_act_135 (by decide) (fun _ => ?_) (fun c => absurd c (by decide))
  refine z_iload_n C dL_act_147 rfl 1 rfl ?_
  refine z_bipush (v := (10 : Int32)) C dL_act_148 (by decide) ?_
  refine z_icmp_ne (tgt := 161) C dL_act_150 (by decide) (fun _ => ?_) (fun c => absurd c (by decide))
  refine z_iload_n C dL_act_161 rfl 1 rfl ?_
  refine z_bipush (v := (11 : Int32)) C dL_act_162 (by decide) ?_
  refine z_icmp_ne (tgt := 176) C dL_act_164 (by decide) (fun _ => ?_) (fun c => absurd c (by decide))
  refine z_iload_n C dL_act_176 rfl 1 rfl ?_
  refine z_bipush (v := (12 : Int32)) C dL_act_177 (by decide) ?_
  refine z_icmp_ne (tgt := 189) C dL_act_179 (by decide) (fun _ => ?_) (fun c => absurd c (by decide))
  refine z_iload_n C dL_act_189 rfl 1 rfl ?_
  refine z_bipush (v := (13 : Int32)) C dL_act_190 (by decide) ?_
  refine z_icmp_ne (tgt := 204) C dL_act_192 (by decide) (fun _ => ?_) (fun c => absurd c (by decide))
  refine z_iload_n C dL_act_204 rfl 1 rfl ?_
  refine z_bipush (v := (14 : Int32)) C dL_act_205 (by decide) ?_
  refine z_icmp_ne (tgt := 218) C dL_act_207 (by decide) (fun _ => ?_) (fun c => absurd c (by decide))
  refine z_aload_n C dL_act_218 rfl 0 rfl ?_
  refine z_iload_n C dL_act_219 rfl 2 rfl ?_
  refine z_cV (vd := false) (Cn := RX7) (k := 0) C 1 [.int v2] [] (c_X7_bestSum (zC_I C) (zC_st C) hm) gL_act_X7_bestSum (by decide +kernel) kX0 vc7 rfl rfl dL_act_220 rfl ⟨Nat.le_of_ble_eq_true rfl, Nat.le_of_ble_eq_true rfl⟩ rfl (Nat.le_of_ble_eq_true rfl) ?_
  exact z_hret C hQ rfl rfl dL_act_223
set_option maxRecDepth 100000 in
set_option maxHeartbeats 4000000 in
theorem cL_act_bestSum_x1 {h : zH} {ad : Nat → Nat} (hI : zI ad zLX.length) (hst : h.1.stackTraces = false) {n : Nat} {v2 : Int32} {v3 : Int32} {s s9 : zS} (hm : m_X7_bestSum n v2 s = some (.inr 1, s9)) : zMH h ad zLX yL_act wsL_act 9 186 [.ref (ad 0), .int (15 : Int32), .int v2, .int v3] s (-71 : Int32) s9 := by
  refine z_startH (hh := [(0, 223, 224, 13), (0, 223, 229, 15), (0, 223, 234, 17)]) (cc := cL_act) (nL := 5) (ret := some .int) (own := RL) (by decide +kernel) rfl rfl hI hst (Nat.le_of_ble_eq_true rfl) (fun G C hQ => ?_)
  show zV h ad zLX 5 G s 0 [(0, .ref (ad 0)), (1, .int (15 : Int32)), (2, .int v2), (3, .int v3)] []
  refine z_iload_n C dL_act_0 rfl 1 rfl ?_
  refine z_if_ne (tgt := 13) C dL_act_1 (by decide) (fun _ => ?_) (fun c => absurd c (by decide))
  refine z_iload_n C dL_act_13 rfl 1 rfl ?_
  refine z_iconst (v := (1 : Int32)) C dL_act_14 (by decide) ?_
  refine z_icmp_ne (tgt := 26) C dL_act_15 (by decide) (fun _ => ?_) (fun c => absurd c (by decide))
  refine z_iload_n C dL_act_26 rfl 1 rfl ?_
  refine z_iconst (v := (2 : Int32)) C dL_act_27 (by decide) ?_
  refine z_icmp_ne (tgt := 39) C dL_act_28 (by decide) (fun _ => ?_) (fun c => absurd c (by decide))
  refine z_iload_n C dL_act_39 rfl 1 rfl ?_
  refine z_iconst (v := (3 : Int32)) C dL_act_40 (by decide) ?_
  refine z_icmp_ne (tgt := 53) C dL_act_41 (by decide) (fun _ => ?_) (fun c => absurd c (by decide))
  refine z_iload_n C dL_act_53 rfl 1 rfl ?_
  refine z_iconst (v := (4 : Int32)) C dL_act_54 (by decide) ?_
  refine z_icmp_ne (tgt := 75) C dL_act_55 (by decide) (fun _ => ?_) (fun c => absurd c (by decide))
  refine z_iload_n C dL_act_75 rfl 1 rfl ?_
  refine z_iconst (v := (5 : Int32)) C dL_act_76 (by decide) ?_
  refine z_icmp_ne (tgt := 88) C dL_act_77 (by decide) (fun _ => ?_) (fun c => absurd c (by decide))
  refine z_iload_n C dL_act_88 rfl 1 rfl ?_
  refine z_bipush (v := (6 : Int32)) C dL_act_89 (by decide) ?_
  refine z_icmp_ne (tgt := 103) C dL_act_91 (by decide) (fun _ => ?_) (fun c => absurd c (by decide))
  refine z_iload_n C dL_act_103 rfl 1 rfl ?_
  refine z_bipush (v := (7 : Int32)) C dL_act_104 (by decide) ?_
  refine z_icmp_ne (tgt := 118) C dL_act_106 (by decide) (fun _ => ?_) (fun c => absurd c (by decide))
  refine z_iload_n C dL_act_118 rfl 1 rfl ?_
  refine z_bipush (v := (8 : Int32)) C dL_act_119 (by decide) ?_
  refine z_icmp_ne (tgt := 132) C dL_act_121 (by decide) (fun _ => ?_) (fun c => absurd c (by decide))
  refine z_iload_n C dL_act_132 rfl 1 rfl ?_
  refine z_bipush (v := (9 : Int32)) C dL_act_133 (by decide) ?_
  refine z_icmp_ne (tgt := 147) C dL_act_135 (by decide) (fun _ => ?_) (fun c => absurd c (by decide))
  refine z_iload_n C dL_act_147 rfl 1 rfl ?_
  refine z_bipush (v := (10 : Int32)) C dL_act_148 (by decide) ?_
  refine z_icmp_ne (tgt := 161) C dL_act_150 (by decide) (fun _ => ?_) (fun c => absurd c (by decide))
  refine z_iload_n C dL_act_161 rfl 1 rfl ?_
  refine z_bipush (v := (11 : Int32)) C dL_act_162 (by decide) ?_
  refine z_icmp_ne (tgt := 176) C dL_act_164 (by decide) (fun _ => ?_) (fun c => absurd c (by decide))
  refine z_iload_n C dL_act_176 rfl 1 rfl ?_
  refine z_bipush (v := (12 : Int32)) C dL_act_177 (by decide) ?_
  refine z_icmp_ne (tgt := 189) C dL_act_179 (by decide) (fun _ => ?_) (fun c => absurd c (by decide))
  refine z_iload_n C dL_act_189 rfl 1 rfl ?_
  refine z_bipush (v := (13 : Int32)) C dL_act_190 (by decide) ?_
  refine z_icmp_ne (tgt := 204) C dL_act_192 (by decide) (fun _ => ?_) (fun c => absurd c (by decide))
  refine z_iload_n C dL_act_204 rfl 1 rfl ?_
  refine z_bipush (v := (14 : Int32)) C dL_act_205 (by decide) ?_
  refine z_icmp_ne (tgt := 218) C dL_act_207 (by decide) (fun _ => ?_) (fun c => absurd c (by decide))
  refine z_aload_n C dL_act_218 rfl 0 rfl ?_
  refine z_iload_n C dL_act_219 rfl 2 rfl ?_
  exact z_hv (ex := 1) (vd := false) (Cn := RX7) (k := 0) C 1 [.int v2] [] (c_X7_bestSum (zC_I C) (zC_st C) hm) hQ gL_act_X7_bestSum (by decide +kernel) kX0 vc7 rfl rfl dL_act_220 rfl ⟨Nat.le_of_ble_eq_true rfl, Nat.le_of_ble_eq_true rfl⟩ rfl (Nat.le_of_ble_eq_true rfl) [] ⟨0, 223, 224, 13⟩ [⟨0, 223, 229, 15⟩, ⟨0, 223, 234, 17⟩] rfl (fun z hz => absurd hz List.not_mem_nil) (by decide) (by decide) eL_act_k13 dL_act_224 (by decide) (by decide) dL_act_226 dL_act_228 rfl rfl
