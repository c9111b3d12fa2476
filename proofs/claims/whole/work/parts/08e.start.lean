theorem lt_nest : ∀ q ∈ zN, Cond.methodLinkNest q.1 q.2.1 q.2.2.1 q.2.2.2 ∈ lw_tbl := List.forall_mem_cons.mpr ⟨List.mem_of_getElem? (i := 65) (by decide +kernel), List.forall_mem_cons.mpr ⟨List.mem_of_getElem? (i := 85) (by decide +kernel), List.forall_mem_cons.mpr ⟨List.mem_of_getElem? (i := 113) (by decide +kernel), List.forall_mem_cons.mpr ⟨List.mem_of_getElem? (i := 129) (by decide +kernel), List.forall_mem_cons.mpr ⟨List.mem_of_getElem? (i := 148) (by decide +kernel), List.forall_mem_cons.mpr ⟨List.mem_of_getElem? (i := 195) (by decide +kernel), List.forall_mem_cons.mpr ⟨List.mem_of_getElem? (i := 225) (by decide +kernel), List.forall_mem_cons.mpr ⟨List.mem_of_getElem? (i := 228) (by decide +kernel), List.forall_mem_cons.mpr ⟨List.mem_of_getElem? (i := 235) (by decide +kernel), List.forall_mem_cons.mpr ⟨List.mem_of_getElem? (i := 238) (by decide +kernel), List.forall_mem_cons.mpr ⟨List.mem_of_getElem? (i := 245) (by decide +kernel), List.forall_mem_cons.mpr ⟨List.mem_of_getElem? (i := 252) (by decide +kernel), List.forall_mem_cons.mpr ⟨List.mem_of_getElem? (i := 253) (by decide +kernel), List.forall_mem_cons.mpr ⟨List.mem_of_getElem? (i := 261) (by decide +kernel), List.forall_mem_cons.mpr ⟨List.mem_of_getElem? (i := 343) (by decide +kernel), List.forall_mem_cons.mpr ⟨List.mem_of_getElem? (i := 375) (by decide +kernel), List.forall_mem_cons.mpr ⟨List.mem_of_getElem? (i := 380) (by decide +kernel), List.forall_mem_cons.mpr ⟨List.mem_of_getElem? (i := 400) (by decide +kernel), List.forall_mem_cons.mpr ⟨List.mem_of_getElem? (i := 408) (by decide +kernel), List.forall_mem_cons.mpr ⟨List.mem_of_getElem? (i := 411) (by decide +kernel), List.forall_mem_cons.mpr ⟨List.mem_of_getElem? (i := 424) (by decide +kernel), List.forall_mem_cons.mpr ⟨List.mem_of_getElem? (i := 541) (by decide +kernel), List.forall_mem_cons.mpr ⟨List.mem_of_getElem? (i := 632) (by decide +kernel), List.forall_mem_cons.mpr ⟨List.mem_of_getElem? (i := 633) (by decide +kernel), List.forall_mem_cons.mpr ⟨List.mem_of_getElem? (i := 634) (by decide +kernel), List.forall_mem_cons.mpr ⟨List.mem_of_getElem? (i := 635) (by decide +kernel), List.forall_mem_cons.mpr ⟨List.mem_of_getElem? (i := 671) (by decide +kernel), List.forall_mem_cons.mpr ⟨List.mem_of_getElem? (i := 718) (by decide +kernel), List.forall_mem_cons.mpr ⟨List.mem_of_getElem? (i := 745) (by decide +kernel), List.forall_mem_cons.mpr ⟨List.mem_of_getElem? (i := 747) (by decide +kernel), fun _ h => absurd h List.not_mem_nil⟩⟩⟩⟩⟩⟩⟩⟩⟩⟩⟩⟩⟩⟩⟩⟩⟩⟩⟩⟩⟩⟩⟩⟩⟩⟩⟩⟩⟩⟩
theorem lt_decl : ∀ q ∈ zDn, Cond.declares q ∈ lw_tbl := List.forall_mem_cons.mpr ⟨List.mem_of_getElem? (i := 455) (by decide +kernel), List.forall_mem_cons.mpr ⟨List.mem_of_getElem? (i := 457) (by decide +kernel), List.forall_mem_cons.mpr ⟨List.mem_of_getElem? (i := 459) (by decide +kernel), fun _ h => absurd h List.not_mem_nil⟩⟩⟩
theorem lt_c1 : Cond.castable "java/lang/IndexOutOfBoundsException" "java/lang/IndexOutOfBoundsException" ∈ lw_tbl := List.mem_of_getElem? (i := 454) (by decide +kernel)
theorem lt_c2 : Cond.castable "java/lang/IllegalArgumentException" "java/lang/IllegalArgumentException" ∈ lw_tbl := List.mem_of_getElem? (i := 522) (by decide +kernel)
theorem lt_c3 : Cond.castable "java/lang/IllegalStateException" "java/lang/IllegalStateException" ∈ lw_tbl := List.mem_of_getElem? (i := 544) (by decide +kernel)
theorem lt_i0 : Cond.instantiable RX0 4 ∈ lw_tbl := List.mem_of_getElem? (i := 128) (by decide +kernel)
theorem lt_i1 : Cond.instantiable RX1 3 ∈ lw_tbl := List.mem_of_getElem? (i := 112) (by decide +kernel)
theorem lt_i2 : Cond.instantiable RX2 5 ∈ lw_tbl := List.mem_of_getElem? (i := 147) (by decide +kernel)
theorem lt_i3 : Cond.instantiable RX3 3 ∈ lw_tbl := List.mem_of_getElem? (i := 194) (by decide +kernel)
theorem lt_i4 : Cond.instantiable RX4 7 ∈ lw_tbl := List.mem_of_getElem? (i := 84) (by decide +kernel)
theorem lt_i5 : Cond.instantiable RX5 4 ∈ lw_tbl := List.mem_of_getElem? (i := 64) (by decide +kernel)
theorem lt_i6 : Cond.instantiable RX6 6 ∈ lw_tbl := List.mem_of_getElem? (i := 169) (by decide +kernel)
theorem lt_i7 : Cond.instantiable RX7 8 ∈ lw_tbl := List.mem_of_getElem? (i := 56) (by decide +kernel)
theorem lt_i8 : Cond.instantiable RX8 24 ∈ lw_tbl := List.mem_of_getElem? (i := 784) (by decide +kernel)
theorem lt_a0 : Cond.arrayClass .int ∈ lw_tbl := List.mem_of_getElem? (i := 82) (by decide +kernel)
theorem lt_a1 : Cond.arrayClass .boolean ∈ lw_tbl := List.mem_of_getElem? (i := 862) (by decide +kernel)
theorem lt_a2 : Cond.arrayClass .long ∈ lw_tbl := List.mem_of_getElem? (i := 1035) (by decide +kernel)
theorem lt_us : Cond.laysStatic Bundle.tN "UNASSIGNED_STACK" Bundle.steD ∈ lw_tbl := List.mem_of_getElem? (i := 479) (by decide +kernel)
theorem lt_ss : Cond.laysStatic Bundle.tN "SUPPRESSED_SENTINEL" Bundle.listD ∈ lw_tbl := List.mem_of_getElem? (i := 481) (by decide +kernel)
theorem lt_ti : Cond.initialized Bundle.tN ∈ lw_tbl := List.mem_of_getElem? (i := 47) (by decide +kernel)
theorem zEx_cases (k : Nat) : zEx k = "java/lang/IndexOutOfBoundsException" ∨ zEx k = "java/lang/IllegalArgumentException" ∨ zEx k = "java/lang/IllegalStateException" := by
  unfold zEx
  split
  · exact Or.inl rfl
  · split
    · exact Or.inr (Or.inl rfl)
    · exact Or.inr (Or.inr rfl)
theorem law_zHN {s : State} {b : Nat} (hts : ∀ w ∈ lw_tbl, w.before #[Value.ref b] s = true) (hgv : (Jvm.Cond.and given_1 narrow_1).before #[Value.ref b] s = true) : zHN s := by
  have hs := flat_of_before _ hgv
  refine ⟨fun q hq => va_Nw.of rfl (hts _ (lt_nest q hq)), fun k => ?_, fun q hq => va_Nw.of rfl (hts _ (lt_decl q hq)), fun j k hjk => ?_⟩
  · rcases zEx_cases k with e | e | e <;> rw [e]
    · exact va_Nw.of rfl (hts _ lt_c1)
    · exact va_Nw.of rfl (hts _ lt_c2)
    · exact va_Nw.of rfl (hts _ lt_c3)
  · rcases zEx_cases j with ej | ej | ej <;> rcases zEx_cases k with ek | ek | ek <;> first | exact absurd (ej.trans ek.symm) hjk | (rw [ej, ek]; exact va_Nc.of (hs _ (by decide +kernel)))
theorem zArr {s : State} {args : Array Value} {ty : FieldType} (h : (Cond.arrayClass ty).before args s = true) : ∃ cA : ClassId, ArrOfT s cA ty ∧ s.vm.findClass ("[" ++ ty.toString) = some cA := by
  obtain ⟨c, k, comp, h1, h2, h3⟩ := Cond.arrayClass_spec h
  exact ⟨c, fun n z => ⟨fun k h => (by cases h), k, h2, comp, h3⟩, h1⟩
theorem law_K {s : State} {b : Nat} (hts : ∀ w ∈ lw_tbl, w.before #[Value.ref b] s = true) : ∃ (dC : Nat → ClassId) (dI : Nat → Nat → Nat) (cA : Nat → ClassId), va_K (dC, dI) vwCl (zT cA) s := by
  obtain ⟨c0, i0, k0⟩ := u_known (C := RX0) (T := TX0) (N := 4) (n := 4) hts inX0 (hts (.instantiable RX0 4) lt_i0)
  obtain ⟨c1, i1, k1⟩ := u_known (C := RX1) (T := TX1) (N := 3) (n := 3) hts inX1 (hts (.instantiable RX1 3) lt_i1)
  obtain ⟨c2, i2, k2⟩ := u_known (C := RX2) (T := TX2) (N := 5) (n := 5) hts inX2 (hts (.instantiable RX2 5) lt_i2)
  obtain ⟨c3, i3, k3⟩ := u_known (C := RX3) (T := TX3) (N := 3) (n := 3) hts inX3 (hts (.instantiable RX3 3) lt_i3)
  obtain ⟨c4, i4, k4⟩ := u_known (C := RX4) (T := TX4) (N := 7) (n := 7) hts inX4 (hts (.instantiable RX4 7) lt_i4)
  obtain ⟨c5, i5, k5⟩ := u_known (C := RX5) (T := TX5) (N := 4) (n := 4) hts inX5 (hts (.instantiable RX5 4) lt_i5)
  obtain ⟨c6, i6, k6⟩ := u_known (C := RX6) (T := TX6) (N := 6) (n := 6) hts inX6 (hts (.instantiable RX6 6) lt_i6)
  obtain ⟨c7, i7, k7⟩ := u_known (C := RX7) (T := TX7) (N := 8) (n := 8) hts inX7 (hts (.instantiable RX7 8) lt_i7)
  obtain ⟨c8, i8, k8⟩ := u_known (C := RX8) (T := TX8) (N := 24) (n := 24) hts inX8 (hts (.instantiable RX8 24) lt_i8)
  obtain ⟨a0, r0, f0⟩ := zArr (hts _ lt_a0)
  obtain ⟨a1, r1, f1⟩ := zArr (hts _ lt_a1)
  obtain ⟨a2, r2, f2⟩ := zArr (hts _ lt_a2)
  refine ⟨fun k => match k with | 0 => c0 | 1 => c1 | 2 => c2 | 3 => c3 | 4 => c4 | 5 => c5 | 6 => c6 | 7 => c7 | _ => c8, fun k => match k with | 0 => i0 | 1 => i1 | 2 => i2 | 3 => i3 | 4 => i4 | 5 => i5 | 6 => i6 | 7 => i7 | _ => i8, fun k => match k with | 0 => a0 | 1 => a1 | _ => a2, fun k q hq => ?_, fun k q hk => ?_⟩
  · match k, hq with
    | 0, hq => cases hq; exact k0
    | 1, hq => cases hq; exact k1
    | 2, hq => cases hq; exact k2
    | 3, hq => cases hq; exact k3
    | 4, hq => cases hq; exact k4
    | 5, hq => cases hq; exact k5
    | 6, hq => cases hq; exact k6
    | 7, hq => cases hq; exact k7
    | 8, hq => cases hq; exact k8
    | k + 9, hq => simp [vwCl] at hq
  · match k, hk with
    | 0, hk => cases hk; exact ⟨r0, f0⟩
    | 1, hk => cases hk; exact ⟨r1, f1⟩
    | 2, hk => cases hk; exact ⟨r2, f2⟩
    | k + 3, hk => simp [zT] at hk
set_option maxRecDepth 100000 in
theorem lw_clX : Cond.classLink RL 8 RX7 ∈ wsL_law := by decide +kernel
set_option maxRecDepth 100000 in
theorem lw_inX : Cond.instantiable RX7 8 ∈ wsL_law := by decide +kernel
set_option maxRecDepth 100000 in
theorem lw_itX : Cond.initialized RX7 ∈ wsL_law := by decide +kernel
set_option maxRecDepth 100000 in
theorem lw_uX : ∀ w ∈ wsX70, w ∈ wsL_law := by decide +kernel
set_option maxRecDepth 100000 in
theorem lw_clM : Cond.classLink RL 72 RX8 ∈ wsL_law := by decide +kernel
set_option maxRecDepth 100000 in
theorem lw_inM : Cond.instantiable RX8 24 ∈ wsL_law := by decide +kernel
set_option maxRecDepth 100000 in
theorem lw_itM : Cond.initialized RX8 ∈ wsL_law := by decide +kernel
set_option maxRecDepth 100000 in
theorem lw_uM : ∀ w ∈ wsX80, w ∈ wsL_law := by decide +kernel
set_option maxRecDepth 100000 in
theorem lw_mlX : Cond.methodLink RL 71 yX7_init ∈ wsL_law := by decide +kernel
set_option maxRecDepth 100000 in
theorem lw_imX : Cond.instanceMethod yX7_init ∈ wsL_law := by decide +kernel
set_option maxRecDepth 100000 in
theorem lw_icX : Cond.initialized yX7_init.cls ∈ wsL_law := by decide +kernel
set_option maxRecDepth 100000 in
theorem lw_mlM : Cond.methodLink RL 74 yX8_init ∈ wsL_law := by decide +kernel
set_option maxRecDepth 100000 in
theorem lw_imM : Cond.instanceMethod yX8_init ∈ wsL_law := by decide +kernel
set_option maxRecDepth 100000 in
theorem lw_icM : Cond.initialized yX8_init.cls ∈ wsL_law := by decide +kernel
set_option maxRecDepth 100000 in
theorem lw_arL : Cond.arrayClass (newarray.typeOf .long) ∈ wsL_law := by decide +kernel
set_option maxRecDepth 100000 in
set_option maxHeartbeats 8000000 in
/-- the law's walk, out of what its model answers -/
theorem law_start (pl : ∃ (n : Nat) (r9 : Int32) (s9 : zS), m_X4_make n (zU (zU z0 21 5 (-1 : Int32)) 23 5 (-1 : Int32)) = some (r9, s9) ∧ ∀ (N : Nat) (xs : Nat → Int32), N ≤ 2560 → ∃ s' : zS, m_L_law_j23 n N xs 514 0 (zCut 27 s9) = some (1, s')) {p : Program} {e : Env} {s : State} {m : MethodId} {below : List Frame} {meth : Method} {c : Code} (l : Launch) (hflags : l.flags = flags0) {b L : Nat} {xs : Nat → Int32} (hL : L ≤ 2560) (C0 : lw_At p s m meth c b L xs) : W p l e room_1 s m #[Value.ref b] below meth c s.heap [] 0 0 (lw_Z below #[Value.ref b] s) (entryFrame m ([Value.ref b] : List Value).toArray 7) := by
  obtain ⟨n, r9, s9, hm, hlaw⟩ := pl
  obtain ⟨s', hm'⟩ := hlaw L xs hL
  obtain ⟨hx, hb, hr, hml, hown, hts, hX, hbl, hlocks, hgv⟩ := C0
  obtain ⟨dC, dI, cA, hK⟩ := law_K hts
  have hN := law_zHN hts hgv
  have hs := flat_of_before _ hgv
  have hst : l.stackTraces = false := by
    unfold Launch.stackTraces
    rw [hflags]
    decide +kernel
  have hts' : ∀ w ∈ wsL_law, w.before #[Value.ref b] s = true := fun w h => hts w (wsL_law_in w h)
  have hZ : zHS (fun q : Nat => s.heap.size ≤ q) s s.heap := ⟨vx_Zqof (hts _ lt_us) (hts _ lt_ti) (hs (.isRef (.static Bundle.tN "UNASSIGNED_STACK" Bundle.steD)) (by decide +kernel)) (fun a h1 h2 => Nat.not_le.mpr h1 h2), vx_Zqof (hts _ lt_ss) (hts _ lt_ti) (hs (.isRef (.static Bundle.tN "SUPPRESSED_SENTINEL" Bundle.listD)) (by decide +kernel)) (fun a h1 h2 => Nat.not_le.mpr h1 h2)⟩
  have C : zCc (l, dC, dI, cA) 7 (p, e, room_1, s, m, #[Value.ref b], below, meth, c, lw_Z below #[Value.ref b] s, 0, 0) (fun q : Nat => s.heap.size ≤ q) cL_law RL wsL_law 12 428 1075 8731 := ⟨⟨hx, hb, hml, hown, hts'⟩, hK, fun q h => h, rfl, rfl, rfl, rfl, hN, hZ⟩
  have key : zVc (l, dC, dI, cA) 7 (p, e, room_1, s, m, #[Value.ref b], below, meth, c, lw_Z below #[Value.ref b] s, 0, 0) (fun q : Nat => s.heap.size ≤ q) (zAd []) [] z0 0 0 0 [(0, .ref b)] [] := by
    refine n_new (l := []) (ds := [1, 1, 1, 1, 1, 1, 1, 1]) C rfl (by decide +kernel) vc7 lw_uX tyX7_ok lw_clX lw_inX lw_itX (fun j hj => by match j, hj with | 0, _ => rfl | 1, _ => rfl | 2, _ => rfl | 3, _ => rfl | 4, _ => rfl | 5, _ => rfl | 6, _ => rfl | 7, _ => rfl | n + 8, hj => exact absurd hj (by omega)) (by decide) rfl (by decide) dL_law_0 (fun q0 => ?_)
    refine n_show (l := [q0]) (lay9 := [.inr (7, [1, 1, 1, 1, 1, 1, 1, 1])]) rfl rfl ?_
    refine n_dup C dL_law_3 rfl ?_
    refine n_callI C 0 [] [.ref q0] (con_X7 hst hm q0) gL_law_X7_init lw_mlX lw_imX lw_icX rfl (by decide +kernel) rfl dL_law_4 rfl ⟨Nat.le_of_ble_eq_true rfl, Nat.le_of_ble_eq_true rfl⟩ rfl (Nat.le_of_ble_eq_true rfl) (by decide) (fun ad4 e9 => ?_)
    refine n_ad [q0, (ad4 1), (ad4 2), (ad4 3), (ad4 4), (ad4 5), (ad4 6), (ad4 7), (ad4 8), (ad4 9), (ad4 10), (ad4 11), (ad4 12), (ad4 13), (ad4 14), (ad4 15), (ad4 16), (ad4 17), (ad4 18), (ad4 19), (ad4 20), (ad4 21), (ad4 22), (ad4 23), (ad4 24), (ad4 25), (ad4 26)] (by decide +kernel) (fun r hr => by match r, hr with | 0, _ => exact (e9 0 (by decide)).symm | 1, _ => rfl | 2, _ => rfl | 3, _ => rfl | 4, _ => rfl | 5, _ => rfl | 6, _ => rfl | 7, _ => rfl | 8, _ => rfl | 9, _ => rfl | 10, _ => rfl | 11, _ => rfl | 12, _ => rfl | 13, _ => rfl | 14, _ => rfl | 15, _ => rfl | 16, _ => rfl | 17, _ => rfl | 18, _ => rfl | 19, _ => rfl | 20, _ => rfl | 21, _ => rfl | 22, _ => rfl | 23, _ => rfl | 24, _ => rfl | 25, _ => rfl | 26, _ => rfl | n + 27, hr => exact absurd (show n + 27 < 27 from hr) (by omega)) ?_
    clear e9
    generalize ad4 1 = q1, ad4 2 = q2, ad4 3 = q3, ad4 4 = q4, ad4 5 = q5, ad4 6 = q6, ad4 7 = q7, ad4 8 = q8, ad4 9 = q9, ad4 10 = q10, ad4 11 = q11, ad4 12 = q12, ad4 13 = q13, ad4 14 = q14, ad4 15 = q15, ad4 16 = q16, ad4 17 = q17, ad4 18 = q18, ad4 19 = q19, ad4 20 = q20, ad4 21 = q21, ad4 22 = q22, ad4 23 = q23, ad4 24 = q24, ad4 25 = q25, ad4 26 = q26
    refine n_sig (σ' := zCut 27 s9) (fun r hr => by unfold zCut; rw [if_pos (show r < 27 from hr)]) ?_
    refine n_astore_n (lv' := [(1, .ref q0), (0, .ref b)]) C dL_law_7 rfl (by decide) rfl ?_
    refine n_new (l := [q0, q1, q2, q3, q4, q5, q6, q7, q8, q9, q10, q11, q12, q13, q14, q15, q16, q17, q18, q19, q20, q21, q22, q23, q24, q25, q26]) (ds := [1, 1, 1, 1, 0, 1, 1, 0, 0, 1, 1, 0, 1, 1, 1, 1, 1, 1, 1, 1, 1, 1, 0, 0]) C rfl (by decide +kernel) vc8 lw_uM tyX8_ok lw_clM lw_inM lw_itM (fun j hj => by match j, hj with | 0, _ => rfl | 1, _ => rfl | 2, _ => rfl | 3, _ => rfl | 4, _ => rfl | 5, _ => rfl | 6, _ => rfl | 7, _ => rfl | 8, _ => rfl | 9, _ => rfl | 10, _ => rfl | 11, _ => rfl | 12, _ => rfl | 13, _ => rfl | 14, _ => rfl | 15, _ => rfl | 16, _ => rfl | 17, _ => rfl | 18, _ => rfl | 19, _ => rfl | 20, _ => rfl | 21, _ => rfl | 22, _ => rfl | 23, _ => rfl | n + 24, hj => exact absurd hj (by omega)) (by decide) (zCut_o (by decide)) (by decide) dL_law_8 (fun q27 => ?_)
    refine n_show (l := [q0, q1, q2, q3, q4, q5, q6, q7, q8, q9, q10, q11, q12, q13, q14, q15, q16, q17, q18, q19, q20, q21, q22, q23, q24, q25, q26, q27]) (lay9 := [.inr (7, [3, 8, 12, 15, 18, 23, 25, 27]), .inr (5, [4, 5, 6, 7]), .inl (0, 16), .inl (0, 16), .inl (0, 16), .inl (0, 16), .inr (4, [9, 10, 11, 0, 0, 0, 0]), .inl (0, 16), .inl (0, 16), .inl (0, 16), .inr (1, [13, 14, 0]), .inl (0, 5), .inl (0, 5), .inr (0, [16, 17, 0, 0]), .inl (0, 8), .inl (0, 8), .inr (2, [19, 20, 21, 22, 0]), .inl (0, 5), .inl (0, 5), .inl (0, 5), .inl (0, 5), .inr (6, [3, 8, 12, 15, 24, 0]), .inl (0, 16), .inr (6, [3, 8, 12, 15, 26, 0]), .inl (0, 16), .inr (3, [28, 0, 0]), .inl (0, 16), .inr (8, [1, 1, 1, 1, 0, 1, 1, 0, 0, 1, 1, 0, 1, 1, 1, 1, 1, 1, 1, 1, 1, 1, 0, 0])]) rfl rfl ?_
    refine n_dup C dL_law_11 rfl ?_
    refine n_callI C 0 [] [.ref q27] (con_X8 s9 q0 q1 q2 q3 q4 q5 q6 q7 q8 q9 q10 q11 q12 q13 q14 q15 q16 q17 q18 q19 q20 q21 q22 q23 q24 q25 q26 q27) gL_law_X8_init lw_mlM lw_imM lw_icM rfl (by decide +kernel) rfl dL_law_12 rfl ⟨Nat.le_of_ble_eq_true rfl, Nat.le_of_ble_eq_true rfl⟩ rfl (Nat.le_of_ble_eq_true rfl) (by decide) (fun ad12 e9 => ?_)
    refine n_ad [q0, q1, q2, q3, q4, q5, q6, q7, q8, q9, q10, q11, q12, q13, q14, q15, q16, q17, q18, q19, q20, q21, q22, q23, q24, q25, q26, q27, (ad12 28), (ad12 29), (ad12 30), (ad12 31), (ad12 32), (ad12 33), (ad12 34), (ad12 35), (ad12 36), (ad12 37), (ad12 38), (ad12 39), (ad12 40), (ad12 41), (ad12 42), (ad12 43), (ad12 44), (ad12 45)] (by decide +kernel) (fun r hr => by match r, hr with | 0, _ => exact (e9 0 (by decide)).symm | 1, _ => exact (e9 1 (by decide)).symm | 2, _ => exact (e9 2 (by decide)).symm | 3, _ => exact (e9 3 (by decide)).symm | 4, _ => exact (e9 4 (by decide)).symm | 5, _ => exact (e9 5 (by decide)).symm | 6, _ => exact (e9 6 (by decide)).symm | 7, _ => exact (e9 7 (by decide)).symm | 8, _ => exact (e9 8 (by decide)).symm | 9, _ => exact (e9 9 (by decide)).symm | 10, _ => exact (e9 10 (by decide)).symm | 11, _ => exact (e9 11 (by decide)).symm | 12, _ => exact (e9 12 (by decide)).symm | 13, _ => exact (e9 13 (by decide)).symm | 14, _ => exact (e9 14 (by decide)).symm | 15, _ => exact (e9 15 (by decide)).symm | 16, _ => exact (e9 16 (by decide)).symm | 17, _ => exact (e9 17 (by decide)).symm | 18, _ => exact (e9 18 (by decide)).symm | 19, _ => exact (e9 19 (by decide)).symm | 20, _ => exact (e9 20 (by decide)).symm | 21, _ => exact (e9 21 (by decide)).symm | 22, _ => exact (e9 22 (by decide)).symm | 23, _ => exact (e9 23 (by decide)).symm | 24, _ => exact (e9 24 (by decide)).symm | 25, _ => exact (e9 25 (by decide)).symm | 26, _ => exact (e9 26 (by decide)).symm | 27, _ => exact (e9 27 (by decide)).symm | 28, _ => rfl | 29, _ => rfl | 30, _ => rfl | 31, _ => rfl | 32, _ => rfl | 33, _ => rfl | 34, _ => rfl | 35, _ => rfl | 36, _ => rfl | 37, _ => rfl | 38, _ => rfl | 39, _ => rfl | 40, _ => rfl | 41, _ => rfl | 42, _ => rfl | 43, _ => rfl | 44, _ => rfl | 45, _ => rfl | n + 46, hr => exact absurd (show n + 46 < 46 from hr) (by omega)) ?_
    clear e9
    generalize ad12 28 = q28, ad12 29 = q29, ad12 30 = q30, ad12 31 = q31, ad12 32 = q32, ad12 33 = q33, ad12 34 = q34, ad12 35 = q35, ad12 36 = q36, ad12 37 = q37, ad12 38 = q38, ad12 39 = q39, ad12 40 = q40, ad12 41 = q41, ad12 42 = q42, ad12 43 = q43, ad12 44 = q44, ad12 45 = q45
    refine n_astore_n (lv' := [(2, .ref q27), (1, .ref q0), (0, .ref b)]) C dL_law_15 rfl (by decide) rfl ?_
    refine n_iconst (v := (1 : Int32)) C dL_law_16 (by decide) ?_
    refine n_newa (l := [q0, q1, q2, q3, q4, q5, q6, q7, q8, q9, q10, q11, q12, q13, q14, q15, q16, q17, q18, q19, q20, q21, q22, q23, q24, q25, q26, q27, q28, q29, q30, q31, q32, q33, q34, q35, q36, q37, q38, q39, q40, q41, q42, q43, q44, q45]) (z := 2) (ty := .long) (N' := 1) (a0 := (1, .inr (.inl (fun _ => (0 : Int32).toInt64)))) (atype := .long) C rfl (by decide +kernel) lw_arL rfl rfl (fun _ _ h9 => h9) (fun cA => by rw [vp_cell_l, show (0 : Int32).toInt64 = 0 by decide +kernel]; rfl) rfl (by decide) (by decide) (by decide) (zCut_o (by decide)) (by decide) dL_law_17 (fun q46 => ?_)
    refine n_show (l := [q0, q1, q2, q3, q4, q5, q6, q7, q8, q9, q10, q11, q12, q13, q14, q15, q16, q17, q18, q19, q20, q21, q22, q23, q24, q25, q26, q27, q28, q29, q30, q31, q32, q33, q34, q35, q36, q37, q38, q39, q40, q41, q42, q43, q44, q45, q46]) (lay9 := zLL) rfl rfl ?_
    refine n_astore_n (lv' := [(3, .ref q46), (2, .ref q27), (1, .ref q0), (0, .ref b)]) C dL_law_19 rfl (by decide) rfl ?_
    refine n_iconst (v := (0 : Int32)) C dL_law_20 (by decide) ?_
    refine n_istore (lv' := [(4, .int 0), (3, .ref q46), (2, .ref q27), (1, .ref q0), (0, .ref b)]) C dL_law_21 (by decide) rfl ?_
    intro hI hAi H locs ls hP hS hl
    have hAB : ∀ q, zA (zAd [q0, q1, q2, q3, q4, q5, q6, q7, q8, q9, q10, q11, q12, q13, q14, q15, q16, q17, q18, q19, q20, q21, q22, q23, q24, q25, q26, q27, q28, q29, q30, q31, q32, q33, q34, q35, q36, q37, q38, q39, q40, q41, q42, q43, q44, q45, q46]) zLL.length s.heap.size q → s.heap.size ≤ q := by
      rintro q (⟨k, hk, rfl⟩ | hq)
      · exact hAi k hk
      · exact hq
    exact w_L_law_j23 (tb := c.exceptionTable.toList) (h := (l, dC, dI, cA)) (b := b) (N := L) (xs := xs) (n := n) 514 (p, e, room_1, s, m, #[Value.ref b], below, meth, c, lw_Z below #[Value.ref b] s, 47, 515) 0 (zCut 27 s9) ⟨⟨hx, hb, hml, hown, hts'⟩, hK, hI, hN, zHS_to hZ (fun _ _ _ => rfl) hAB (Vm.Alike.refl s.vm), hlocks, rfl, rfl, rfl, hst, by decide, by decide⟩ ⟨hX, hbl, fun h => Nat.not_le.mpr hbl (hAB b h)⟩ ⟨rfl, rfl, rfl, hr, hAi⟩ ⟨by decide, by decide⟩ hm' H locs ls hP ⟨hS.1, fun q h1 h2 => hS.2.1 q h1 (Nat.not_le.mpr h1), fun q hq => Or.inr (hS.2.2 q hq)⟩ (lv_sub hl [4, 3, 2, 1, 0] rfl)
  rw [lg_entry_eq]
  exact key (fun i j hi => absurd hi (Nat.not_lt_zero i)) (fun i hi => absurd hi (Nat.not_lt_zero i)) s.heap [] _ (fun k q hq => by simp [zW] at hq) va_S.rf (lv_entry ([Value.ref b]) (Nat.le_of_ble_eq_true rfl))
