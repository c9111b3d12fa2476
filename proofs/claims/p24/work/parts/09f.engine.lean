set_option maxRecDepth 100000 in
set_option maxHeartbeats 8000000 in
/-- 'new TaxEngine()' in a method of the law that has no engine yet -/
theorem z_engine {tb : List ExceptionTableEntry} {h : zH} {ad0 : Nat → Nat} {nL : Nat} {G : zG} {cc : ByteArray} {Ts : List Cond} {F L pc : Nat} {σ : zS} {lv : List (Nat × Value)} (C : zCT tb h ad0 ([] : List zK) nL G cc RL Ts F L) (hE : ∀ w ∈ wqE, w ∈ Ts) (hG : GoodIn Ts wsX7_init) (hF : 7 ≤ F) (hL : 180 ≤ L) {n : Nat} {r9 : Int32} {s9 : zS} (hm : m_X4_make n (zU (zU z0 21 5 (-1 : Int32)) 23 5 (-1 : Int32)) = some (r9, s9)) {f : Nat} (hB : zBud G (f + 42)) (d0 : decode cc pc = .ok (.new 8, 3)) (d1 : decode cc (pc + 3) = .ok (.dup, 1)) (d2 : decode cc (pc + 3 + 1) = .ok (.invokespecial 89, 3)) (kk : ∀ ad, zI ad zLX.length → (∀ i, i < zLX.length → G.2.2.2.1.heap.size ≤ ad i) → zV h ad zLX nL (zGa G 27 252) s9 (pc + 3 + 1 + 3) lv [.ref (ad 0)]) : zV h ad0 ([] : List zK) nL G σ pc lv [] := by
  have hst : h.1.stackTraces = false := zC_st C
  obtain ⟨Cc, Cs, e1, e2, C'⟩ := zC_n C
  obtain ⟨p, e, R, s, m, args, below, meth, c, Q, cells, slots⟩ := G
  obtain ⟨b1, b2⟩ := hB
  have b1 : cells + (f + 42) ≤ Cc := by rw [← e1]; exact b1
  have b2 : slots + 6 * (f + 42) ≤ Cs := by rw [← e2]; exact b2
  refine z_in (cells := cells) (slots := slots) rfl ?_
  refine n_sig (σ' := z0) (fun r hr => absurd hr (Nat.not_lt_zero r)) ?_
  refine n_new (l := []) (ds := [1, 1, 1, 1, 1, 1, 1, 1]) C' rfl (by decide +kernel) vc7 (fun w hw => hE w (wqE_x hw)) tyX7_ok (hE _ (wqE_h wqH_10)) (hE _ (wqE_h wqH_11)) (hE _ (wqE_h wqH_3)) (fun j hj => by match j, hj with | 0, _ => rfl | 1, _ => rfl | 2, _ => rfl | 3, _ => rfl | 4, _ => rfl | 5, _ => rfl | 6, _ => rfl | 7, _ => rfl | n + 8, hj => exact absurd hj (by omega)) (by decide) rfl ⟨by omega, by omega⟩ d0 (fun q0 => ?_)
  refine n_show (l := [q0]) (lay9 := [.inr (7, [1, 1, 1, 1, 1, 1, 1, 1])]) rfl rfl ?_
  refine n_dup C' d1 rfl ?_
  refine n_callI C' 0 [] [.ref q0] (con_X7 hst hm q0) hG (hE _ (wqE_h wqH_12)) (hE _ (wqE_h wqH_13)) (hE _ (wqE_h wqH_14)) rfl (by decide +kernel) rfl d2 rfl ⟨by omega, by omega⟩ rfl (Nat.le_of_ble_eq_true rfl) ⟨by omega, by omega⟩ (fun ad4 e9 => ?_)
  refine n_ad [q0, (ad4 1), (ad4 2), (ad4 3), (ad4 4), (ad4 5), (ad4 6), (ad4 7), (ad4 8), (ad4 9), (ad4 10), (ad4 11), (ad4 12), (ad4 13), (ad4 14), (ad4 15), (ad4 16), (ad4 17), (ad4 18), (ad4 19), (ad4 20), (ad4 21), (ad4 22), (ad4 23), (ad4 24), (ad4 25), (ad4 26)] (by decide +kernel) (fun r hr => by match r, hr with | 0, _ => exact (e9 0 (by decide)).symm | 1, _ => rfl | 2, _ => rfl | 3, _ => rfl | 4, _ => rfl | 5, _ => rfl | 6, _ => rfl | 7, _ => rfl | 8, _ => rfl | 9, _ => rfl | 10, _ => rfl | 11, _ => rfl | 12, _ => rfl | 13, _ => rfl | 14, _ => rfl | 15, _ => rfl | 16, _ => rfl | 17, _ => rfl | 18, _ => rfl | 19, _ => rfl | 20, _ => rfl | 21, _ => rfl | 22, _ => rfl | 23, _ => rfl | 24, _ => rfl | 25, _ => rfl | 26, _ => rfl | n + 27, hr => exact absurd (show n + 27 < 27 from hr) (by omega)) ?_
  clear e9
  generalize ad4 1 = q1, ad4 2 = q2, ad4 3 = q3, ad4 4 = q4, ad4 5 = q5, ad4 6 = q6, ad4 7 = q7, ad4 8 = q8, ad4 9 = q9, ad4 10 = q10, ad4 11 = q11, ad4 12 = q12, ad4 13 = q13, ad4 14 = q14, ad4 15 = q15, ad4 16 = q16, ad4 17 = q17, ad4 18 = q18, ad4 19 = q19, ad4 20 = q20, ad4 21 = q21, ad4 22 = q22, ad4 23 = q23, ad4 24 = q24, ad4 25 = q25, ad4 26 = q26
  exact z_out (cells := cells) (slots := slots) (a := 27) (b := 252) rfl (fun hI hAi => kk _ hI hAi)
