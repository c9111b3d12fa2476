theorem zGa_s {G : zG} {x y : Nat} : (zGa G x y).2.2.2.1 = G.2.2.2.1 := by
  obtain ⟨p, e, R, s, m, args, below, meth, c, Q, cells, slots⟩ := G
  rfl
set_option maxRecDepth 100000 in
set_option maxHeartbeats 8000000 in
/-- the law from its entry -/
theorem law_start {p : Program} {e : Env} {s : State} {m : MethodId} {below : List Frame} {meth : Method} {c : Code} (l : Launch) (hflags : l.flags = flags0) {b L : Nat} {xs : Nat → Int32} (hL : L ≤ 260) (C0 : lw_At p s m meth c b L xs) : W p l e room_1 s m #[Value.ref b] below meth c s.heap [] 0 0 (lw_Z below #[Value.ref b] s) (entryFrame m ([Value.ref b] : List Value).toArray 5) := by
  obtain ⟨s0, hm, hJ⟩ := J_start
  obtain ⟨hx, hb, hr, hml, hown, hts, hX, hbl, hlocks, hgv⟩ := C0
  obtain ⟨dC, dI, cA, hK⟩ := law_K hts
  have hN := law_zHN hts hgv
  have hs := flat_of_before _ hgv
  have hst : l.stackTraces = false := by
    unfold Launch.stackTraces
    rw [hflags]
    decide +kernel
  have hts' : ∀ w ∈ wqL, w.before #[Value.ref b] s = true := fun w h => hts w (tb_wqL w h)
  have hZ : zHS (fun q : Nat => s.heap.size ≤ q) s s.heap := ⟨vx_Zqof (hts _ lt_us) (hts _ lt_ti) (hs (.isRef (.static Bundle.tN "UNASSIGNED_STACK" Bundle.steD)) (by decide +kernel)) (fun a h1 h2 => Nat.not_le.mpr h1 h2), vx_Zqof (hts _ lt_ss) (hts _ lt_ti) (hs (.isRef (.static Bundle.tN "SUPPRESSED_SENTINEL" Bundle.listD)) (by decide +kernel)) (fun a h1 h2 => Nat.not_le.mpr h1 h2)⟩
  have key : ∀ G : zG, G = (p, e, room_1, s, m, #[Value.ref b], below, meth, c, lw_Z below #[Value.ref b] s, 0, 0) → zV (l, dC, dI, cA) (fun _ => 0) ([] : List zK) 5 G z0 0 [(0, .ref b)] [] := by
    intro G hG
    have hI0 : zI (fun _ => 0) ([] : List zK).length := fun i j hi => absurd hi (Nat.not_lt_zero i)
    have C : zCT c.exceptionTable.toList (l, dC, dI, cA) (fun _ => 0) ([] : List zK) 5 G cL_law RL wqL 14 532 := by
      subst hG
      refine ⟨⟨hx, hb, hml, hown, hts'⟩, hK, hI0, hN, zHS_to hZ (fun _ _ _ => rfl) ?_ (Vm.Alike.refl s.vm), hlocks, rfl, rfl, rfl, hst, by decide, by decide⟩
      rintro q (⟨k, hk, _⟩ | hq)
      · exact absurd hk (Nat.not_lt_zero k)
      · exact hq
    have hB : zBud G 6000 := by
      subst hG
      exact ⟨by decide, by decide⟩
    have hG1 : G.2.2.2.1 = s := by subst hG; rfl
    have hQ0 : ∀ ad : Nat → Nat, (∀ k, k < 27 → s.heap.size ≤ ad k) → zQl ad b G := fun ad hA => by
      subst hG
      exact ⟨rfl, rfl, rfl, hr, hA⟩
    have hX0 : ∀ ad : Nat → Nat, (∀ k, k < 27 → s.heap.size ≤ ad k) → zScr ad zLX G b L xs := fun ad hA => by
      subst hG
      refine ⟨hX, hbl, ?_⟩
      rintro (⟨k, hk, e9⟩ | hq)
      · rw [e9] at hbl; exact absurd (hA k hk) (Nat.not_le.mpr hbl)
      · exact absurd hq (Nat.not_le.mpr hbl)
    clear hG
    refine z_lK (f := 5000) (mc := 1000) (ms := 6000) C 0 [] [] hB rfl (coL_lines (σ := z0) hI0 hst) gl_lines (by decide +kernel) rfl dL_law_0 rfl ⟨Nat.le_of_ble_eq_true rfl, Nat.le_of_ble_eq_true rfl⟩ rfl (Nat.le_of_ble_eq_true rfl) ?_
    have C := zCT_a (a := 1000) (b := 6000) C (zBud_le hB (Nat.le_of_ble_eq_true rfl)) (Nat.le_refl _); have hB : zBud (zGa G 1000 6000) 5000 := zBud_a (a := 1000) hB
    refine z_if_eq (tgt := 18) C dL_law_3 (by decide) (fun c => absurd c (by decide)) (fun _ => ?_)
    refine z_lK (f := 4000) (mc := 1000) (ms := 6000) C 0 [] [] hB rfl (coL_circles (σ := z0) hI0 hst) gl_circles (by decide +kernel) rfl dL_law_6 rfl ⟨Nat.le_of_ble_eq_true rfl, Nat.le_of_ble_eq_true rfl⟩ rfl (Nat.le_of_ble_eq_true rfl) ?_
    have C := zCT_a (a := 1000) (b := 6000) C (zBud_le hB (Nat.le_of_ble_eq_true rfl)) (Nat.le_refl _); have hB : zBud (zGa (zGa G 1000 6000) 1000 6000) 4000 := zBud_a (a := 1000) hB
    refine z_if_eq (tgt := 18) C dL_law_9 (by decide) (fun c => absurd c (by decide)) (fun _ => ?_)
    refine z_lK (f := 3000) (mc := 1000) (ms := 6000) C 0 [] [] hB rfl (coL_years (σ := z0) hI0 hst) gl_years (by decide +kernel) rfl dL_law_12 rfl ⟨Nat.le_of_ble_eq_true rfl, Nat.le_of_ble_eq_true rfl⟩ rfl (Nat.le_of_ble_eq_true rfl) ?_
    have C := zCT_a (a := 1000) (b := 6000) C (zBud_le hB (Nat.le_of_ble_eq_true rfl)) (Nat.le_refl _); have hB : zBud (zGa (zGa (zGa G 1000 6000) 1000 6000) 1000 6000) 3000 := zBud_a (a := 1000) hB
    refine z_if_ne (tgt := 20) C dL_law_15 (by decide) (fun _ => ?_) (fun c => absurd c (by decide))
    refine z_engine (f := 2958) C (fun w hw => List.mem_append_right _ hw) (gl gq_init) (by decide) (by decide) hm hB dL_law_20 dL_law_23 dL_law_24 (fun ad hI hAi => ?_)
    have hAi' := hAi
    have hAi : ∀ k, k < 27 → s.heap.size ≤ ad k := fun k hk => by
      have h9 := hAi k hk
      rw [zGa_s, zGa_s, zGa_s, hG1] at h9
      exact h9
    have C := zC_e27 C hI hAi' (zBud_le hB (Nat.le_of_ble_eq_true rfl))
    have hB := zBud_e (f := 2958) hB
    have hQ := zQl_a (x := 27) (y := 252) (zQl_a (x := 1000) (y := 6000) (zQl_a (x := 1000) (y := 6000) (zQl_a (x := 1000) (y := 6000) (hQ0 ad hAi))))
    have X := zScr_a (x := 27) (y := 252) (zScr_a (x := 1000) (y := 6000) (zScr_a (x := 1000) (y := 6000) (zScr_a (x := 1000) (y := 6000) (hX0 ad hAi))))
    refine z_astore_n (lv' := [(1, .ref (ad 0)), (0, .ref b)]) C dL_law_27 rfl (by decide) rfl ?_
    refine z_iconst (v := (1 : Int32)) C dL_law_28 (by decide) ?_
    refine z_istore_n (y := (1 : Int32)) (lv' := [(2, .int (1 : Int32)), (1, .ref (ad 0)), (0, .ref b)]) C dL_law_29 rfl (by decide) rfl rfl ?_
    exact z_sub [2, 1, 0] rfl (w_law_loop hL 14 _ 1 s0 (by decide) (by decide) C hQ X (zBud_le hB (Nat.le_of_ble_eq_true rfl)) hJ)
  rw [lg_entry_eq]
  exact key _ rfl s.heap [] _ (fun k q hq => by simp [zW] at hq) va_S.rf (lv_entry ([Value.ref b]) (Nat.le_of_ble_eq_true rfl))
