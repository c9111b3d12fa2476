section P24L
/-! the law's own body -/
def zQl (ad : Nat → Nat) (b : Nat) (G : zG) : Prop := match G with
  | (_, _, R, s, _, args, below, meth, _, Q, _, _) => Q = lw_Z below #[Value.ref b] s ∧ R = room_1 ∧ args = #[Value.ref b] ∧ meth.sig.returnType = ret ∧ ∀ k, k < 27 → s.heap.size ≤ ad k
theorem zQl_p {ad : Nat → Nat} {b : Nat} {G : zG} (hQ : zQl ad b G) : zQl ad b (zGp G) := by
  obtain ⟨p, e, R, s, m, args, below, meth, c, Q, cells, slots⟩ := G
  exact hQ
theorem zQl_a {ad : Nat → Nat} {b x y : Nat} {G : zG} (hQ : zQl ad b G) : zQl ad b (zGa G x y) := by
  obtain ⟨p, e, R, s, m, args, below, meth, c, Q, cells, slots⟩ := G
  exact hQ
theorem zScr_a {ad : Nat → Nat} {lay : List zK} {b N x y : Nat} {xs : Nat → Int32} {G : zG} (X : zScr ad lay G b N xs) : zScr ad lay (zGa G x y) b N xs := by
  obtain ⟨p, e, R, s, m, args, below, meth, c, Q, cells, slots⟩ := G
  exact X
theorem z_lret {tb : List ExceptionTableEntry} {h : zH} {ad : Nat → Nat} {G : zG} {Ts : List Cond} {F L b pc : Nat} {σ : zS} {lv : List (Nat × Value)} (C : zCT tb h ad zLX 5 G cL_law RL Ts F L) (hQ : zQl ad b G) (hdg : decode cL_law pc = .ok (.ireturn, 1)) : zV h ad zLX 5 G σ pc lv [.int 1] := by
  obtain ⟨p, e, R, s, m, args, below, meth, c, Q, cells, slots⟩ := G
  obtain ⟨⟨hx, hb, hml, hown, hts⟩, hK, hI, hN, hZ, hlocks, hnt, hF, hL, hst9, hcs, hss⟩ := C
  obtain ⟨rfl, rfl, rfl, hret, hnew⟩ := hQ
  intro H locs ls hP hS hl
  refine va_forget (fun q hq => ?_) (W.widen (k := 1054649) (n := 5937676) hcs hss (lw_ret hx hb hret hlocks hdg))
  rcases hS.2.2 q hq with ⟨k, hk, e9⟩ | h9
  · rw [e9]; exact hnew k hk
  · exact h9
theorem n_div {a d : Nat} (ha : a < 2147483648) (hd : d < 2147483648) : nI a / nI d = nI (a / d) := (Int32.ofNat_div ha hd).symm
theorem n_mul (a d : Nat) : nI a * nI d = nI (a * d) := (Int32.ofNat_mul a d).symm
theorem n_rem {a d : Nat} (ha : a < 2147483648) (hd : d < 2147483648) : nI a - nI a / nI d * nI d = nI (a % d) := by
  rw [n_div ha hd, n_mul, n_subN (Nat.div_mul_le_self a d), Nat.mod_def, Nat.mul_comm]
theorem n_ushr7 (v : Int32) : ∃ m, m < 33554432 ∧ (v.toUInt32 >>> ((7 : Int32).toUInt32 &&& Int32.toUInt32 31)).toInt32 = nI m := by
  have hl : v.toBitVec.toNat < 4294967296 := v.toBitVec.isLt
  have hv : v = nI v.toBitVec.toNat := (Int32.ofNat_bitVecToNat v.toBitVec).symm
  refine ⟨Nat.shiftRight v.toBitVec.toNat 7, ?_, hShr 7 (7 : Int32) (by decide) rfl hv (Nat.ble_eq_true_of_le (by omega))⟩
  show v.toBitVec.toNat >>> 7 < 33554432
  rw [Nat.shiftRight_eq_div_pow]
  omega
variable {tb : List ExceptionTableEntry} {h : zH} {ad : Nat → Nat} {b N : Nat} {xs : Nat → Int32}
abbrev zCl5 (tb : List ExceptionTableEntry) (h : zH) (ad : Nat → Nat) (G : zG) : Prop := zCT tb h ad zLX 5 G cL_law RL wqL 14 532
set_option maxRecDepth 100000 in
set_option maxHeartbeats 4000000 in
/-- one round of the loop, from its number on -/
theorem w_law_rest {G : zG} (C : zCl5 tb h ad G) (hQ : zQl ad b G) (X : zScr ad zLX G b N xs) {f : Nat} (hB : zBud G (f + 182)) {k xn : Nat} (h1 : 1 ≤ k) (h2 : k < 15) (hx : xn < 33554432) {s : zS} (hJ : zJd k s) (kk : ∀ G s', zCl5 tb h ad G → zQl ad b G → zScr ad zLX G b N xs → zBud G f → zJd (k + 1) s' → zV h ad zLX 5 G s' 30 [(0, .ref b), (1, .ref (ad 0)), (2, .int (nI (k + 1)))] []) : zV h ad zLX 5 G s 57 [(3, .int (nI xn)), (0, .ref b), (1, .ref (ad 0)), (2, .int (nI k))] [] := by
  have hbv : (xn % 9 = 3 ∧ (if xn % 9 = 3 then xn % 1001 else xn / 20 % k) ≤ 1000) ∨ (xn % 9 ≠ 3 ∧ (if xn % 9 = 3 then xn % 1001 else xn / 20 % k) < k) := by
    by_cases q : xn % 9 = 3
    · rw [if_pos q]; exact Or.inl ⟨q, by omega⟩
    · rw [if_neg q]; exact Or.inr ⟨q, Nat.mod_lt _ h1⟩
  obtain ⟨t, q1, q2, J1, hrest⟩ := J_step (k := k) (kd := xn % 9) (a := xn / 9 % k) (b := if xn % 9 = 3 then xn % 1001 else xn / 20 % k) (w := xn % 1000001) h1 h2 (Nat.mod_lt _ (by decide)) (Nat.mod_lt _ h1) hbv (by omega) hJ
  have hk0 : ¬ nI k = 0 := nI_ne0 h1 (by omega)
  have e1 : nI xn / 9 - nI xn / 9 / nI k * nI k = nI (xn / 9 % k) := by
    rw [show nI xn / 9 = nI (xn / 9) from n_div (d := 9) (by omega) (by decide)]
    exact n_rem (by omega) (by omega)
  have e2 : nI xn / 20 - nI xn / 20 / nI k * nI k = nI (xn / 20 % k) := by
    rw [show nI xn / 20 = nI (xn / 20) from n_div (d := 20) (by omega) (by decide)]
    exact n_rem (by omega) (by omega)
  have fin : ∀ (G : zG) (s' : zS), zCl5 tb h ad G → zQl ad b G → zScr ad zLX G b N xs → zBud G f → zJd (k + 1) s' → zV h ad zLX 5 G s' 164 [(4, .int (nI (xn % 9))), (3, .int (nI xn)), (0, .ref b), (1, .ref (ad 0)), (2, .int (nI k))] [] := by
    intro G s' C hQ X hB hJ'
    refine z_iinc (j := 4) (v := nI (k + 1)) (d := (1 : Int32)) (lv' := [(2, .int (nI (k + 1))), (4, .int (nI (xn % 9))), (3, .int (nI xn)), (0, .ref b), (1, .ref (ad 0))]) C dL_law_164 rfl (by decide) (nI_1 k).symm (by decide) rfl ?_
    refine z_goto (tgt := 30) C dL_law_167 (by decide) ?_
    exact z_sub [3, 4, 0] rfl (kk G s' C hQ X hB hJ')
  refine z_iload_n C dL_law_57 rfl 0 rfl ?_
  refine z_bipush (v := (9 : Int32)) C dL_law_58 (by decide) ?_
  refine z_irem C dL_law_60 (by decide) ?_
  refine z_istore (y := nI (xn % 9)) (lv' := [(4, .int (nI (xn % 9))), (3, .int (nI xn)), (0, .ref b), (1, .ref (ad 0)), (2, .int (nI k))]) C dL_law_61 (by decide) (n_rem (d := 9) (by omega) (by decide)).symm rfl ?_
  refine z_aload_n C dL_law_63 rfl 3 rfl ?_
  refine z_iload_n C dL_law_64 rfl 4 rfl ?_
  refine z_iload C dL_law_65 0 rfl ?_
  refine z_iload_n C dL_law_67 rfl 1 rfl ?_
  refine z_bipush (v := (9 : Int32)) C dL_law_68 (by decide) ?_
  refine z_idiv C dL_law_70 (by decide) ?_
  refine z_iload_n C dL_law_71 rfl 4 rfl ?_
  refine z_irem C dL_law_72 hk0 ?_
  refine z_top e1 ?_
  refine z_iload C dL_law_73 0 rfl ?_
  refine z_iconst (v := (3 : Int32)) C dL_law_75 (by decide) ?_
  have K : zV h ad zLX 5 G s 93 [(4, .int (nI (xn % 9))), (3, .int (nI xn)), (0, .ref b), (1, .ref (ad 0)), (2, .int (nI k))] [.int (nI (if xn % 9 = 3 then xn % 1001 else xn / 20 % k)), .int (nI (xn / 9 % k)), .int (nI (xn % 9)), .int (nI k), .ref (ad 0)] := by
    refine z_lS C 5 [.ref (ad 0), .int (nI k), .int (nI (xn % 9)), .int (nI (xn / 9 % k)), .int (nI (if xn % 9 = 3 then xn % 1001 else xn / 20 % k))] [] (zBud_r hB) (cL_define_v (zC_I C) (zC_st C) q1) (gl gq_L_define) (by decide +kernel) rfl dL_law_93 rfl ⟨Nat.le_of_ble_eq_true rfl, Nat.le_of_ble_eq_true rfl⟩ rfl (Nat.le_of_ble_eq_true rfl) ?_
    have C := zCT_p C (zBud_r hB); have hQ := zQl_p hQ; have X := zScr_p X; have hB := zBud_p hB
    refine z_if_ne (tgt := 109) C dL_law_96 (by decide) (fun c => absurd rfl c) (fun _ => ?_)
    refine z_aload_n C dL_law_99 rfl 3 rfl ?_
    refine z_iload_n C dL_law_100 rfl 4 rfl ?_
    refine z_cV (vd := false) (Cn := RX7) (k := 0) C 1 [.int (nI k)] [] (c_X7_kindOf (zC_I C) (zC_st C) q2) (gl gq_kindOf) (by decide +kernel) kX0 vc7 rfl rfl dL_law_101 rfl ⟨Nat.le_of_ble_eq_true rfl, Nat.le_of_ble_eq_true rfl⟩ rfl (Nat.le_of_ble_eq_true rfl) ?_
    refine z_iload C dL_law_104 0 rfl ?_
    refine z_icmp_eq (tgt := 111) C dL_law_106 (by decide) (fun _ => ?_) (fun c => absurd rfl c)
    refine z_iload C dL_law_111 0 rfl ?_
    by_cases h0 : xn % 9 = 0
    · refine z_if_ne (tgt := 119) C dL_law_113 (by decide) (fun c => absurd (by rw [h0]; exact nI_0) c) (fun _ => ?_)
      refine z_goto (tgt := 164) C dL_law_116 (by decide) ?_
      exact fin _ _ C hQ X (zBud_le hB (by omega)) J1
    · refine z_if_ne (tgt := 119) C dL_law_113 (by decide) (fun _ => ?_) (fun c => absurd c (nI_ne0 (by omega) (by omega)))
      obtain ⟨r1, r2, t2, t3, r3, r4, J3⟩ := hrest h0
      refine z_aload_n C dL_law_119 rfl 3 rfl ?_
      refine z_iload_n C dL_law_120 rfl 4 rfl ?_
      refine z_iload_n C dL_law_121 rfl 1 rfl ?_
      refine z_bipush (v := (9 : Int32)) C dL_law_122 (by decide) ?_
      refine z_idiv C dL_law_124 (by decide) ?_
      refine z_iload_n C dL_law_125 rfl 4 rfl ?_
      refine z_irem C dL_law_126 hk0 ?_
      refine z_top e1 ?_
      refine z_cV (vd := false) (Cn := RX7) (k := 0) C 2 [.int (nI k), .int (nI (xn / 9 % k))] [] (c_X7_dependsOn (zC_I C) (zC_st C) r1) (gl gq_dependsOn) (by decide +kernel) kX0 vc7 rfl rfl dL_law_127 rfl ⟨Nat.le_of_ble_eq_true rfl, Nat.le_of_ble_eq_true rfl⟩ rfl (Nat.le_of_ble_eq_true rfl) ?_
      refine z_if_eq (tgt := 162) C dL_law_130 (by decide) (fun c => absurd c (by decide)) (fun _ => ?_)
      refine z_aload_n C dL_law_133 rfl 3 rfl ?_
      refine z_iload_n C dL_law_134 rfl 4 rfl ?_
      refine z_iload_n C dL_law_135 rfl 4 rfl ?_
      refine z_cV (vd := false) (Cn := RX7) (k := 0) C 2 [.int (nI k), .int (nI k)] [] (c_X7_dependsOn (zC_I C) (zC_st C) r2) (gl gq_dependsOn) (by decide +kernel) kX0 vc7 rfl rfl dL_law_136 rfl ⟨Nat.le_of_ble_eq_true rfl, Nat.le_of_ble_eq_true rfl⟩ rfl (Nat.le_of_ble_eq_true rfl) ?_
      refine z_if_ne (tgt := 162) C dL_law_139 (by decide) (fun c => absurd rfl c) (fun _ => ?_)
      refine z_aload_n C dL_law_142 rfl 3 rfl ?_
      refine z_iconst (v := (0 : Int32)) C dL_law_143 (by decide) ?_
      refine z_iload_n C dL_law_144 rfl 4 rfl ?_
      refine z_iload_n C dL_law_145 rfl 1 rfl ?_
      refine z_ldc (v := (1000001 : Int32)) C (List.mem_append_right _ (wqE_h wqH_c79)) dL_law_146 ?_
      refine z_irem C dL_law_148 (by decide) ?_
      refine z_top (y := nI (xn % 1000001)) (n_rem (d := 1000001) (by omega) (by decide)) ?_
      refine z_lS C 4 [.ref (ad 0), .int (0 : Int32), .int (nI k), .int (nI (xn % 1000001))] [] (zBud_r hB) (cL_act_answer_v (zC_I C) (zC_st C) r3) (gl gq_L_act) (by decide +kernel) rfl dL_law_149 rfl ⟨Nat.le_of_ble_eq_true rfl, Nat.le_of_ble_eq_true rfl⟩ rfl (Nat.le_of_ble_eq_true rfl) ?_
      have C := zCT_p C (zBud_r hB); have hQ := zQl_p hQ; have X := zScr_p X; have hB := zBud_p hB
      refine z_if_ne (tgt := 162) C dL_law_152 (by decide) (fun c => absurd rfl c) (fun _ => ?_)
      refine z_aload_n C dL_law_155 rfl 3 rfl ?_
      refine z_lK (f := f) (mc := 180) (ms := 1080) C 1 [.ref (ad 0)] [] hB rfl (coL_refuses (zC_I C) (zC_st C) (by decide) (by decide) r4) (gl gq_L_refuses) (by decide +kernel) rfl dL_law_156 rfl ⟨Nat.le_of_ble_eq_true rfl, Nat.le_of_ble_eq_true rfl⟩ rfl (Nat.le_of_ble_eq_true rfl) ?_
      have C := zCT_a C (zBud_le hB (Nat.le_add_left _ _)) (Nat.le_refl 1080); have hQ := zQl_a (x := 180) (y := 1080) hQ; have X := zScr_a (x := 180) (y := 1080) X; have hB := zBud_a hB
      refine z_if_ne (tgt := 164) C dL_law_159 (by decide) (fun _ => ?_) (fun c => absurd c (by decide))
      exact fin _ _ C hQ X hB J3
  refine z_icmp_ne (tgt := 87) C dL_law_76 (by decide) (fun c => ?_) (fun c => ?_)
  · have hn : ¬ xn % 9 = 3 := fun q => c (by rw [q]; rfl)
    refine z_iload_n C dL_law_87 rfl 1 rfl ?_
    refine z_bipush (v := (20 : Int32)) C dL_law_88 (by decide) ?_
    refine z_idiv C dL_law_90 (by decide) ?_
    refine z_iload_n C dL_law_91 rfl 4 rfl ?_
    refine z_irem C dL_law_92 hk0 ?_
    refine z_top e2 ?_
    rw [if_neg hn] at K
    exact K
  · have hn : xn % 9 = 3 := (nI_eq (b := 3) (by omega) (by decide)).mp c
    refine z_iload_n C dL_law_79 rfl 1 rfl ?_
    refine z_sipush (v := (1001 : Int32)) C dL_law_80 (by decide) ?_
    refine z_irem C dL_law_83 (by decide) ?_
    refine z_top (y := nI (xn % 1001)) (n_rem (d := 1001) (by omega) (by decide)) ?_
    refine z_goto (tgt := 93) C dL_law_84 (by decide) ?_
    rw [if_pos hn] at K
    exact K
set_option maxRecDepth 100000 in
set_option maxHeartbeats 4000000 in
theorem w_law_loop (hN : N ≤ 260) : ∀ (d : Nat) (G : zG) (k : Nat) (s : zS), k + d = 15 → 1 ≤ k → zCl5 tb h ad G → zQl ad b G → zScr ad zLX G b N xs → zBud G (182 * d) → zJd k s → zV h ad zLX 5 G s 30 [(0, .ref b), (1, .ref (ad 0)), (2, .int (nI k))] [] := by
  intro d
  induction d with
  | zero =>
    intro G k s hk h1 C hQ X hB hJ
    have hk : k = 15 := hk
    subst hk
    refine z_iload_n C dL_law_30 rfl 2 rfl ?_
    refine z_bipush (v := (15 : Int32)) C dL_law_31 (by decide) ?_
    refine z_icmp_ge (tgt := 170) C dL_law_33 (by decide) (fun _ => ?_) (fun c => absurd (by decide) c)
    refine z_iconst (v := (1 : Int32)) C dL_law_170 (by decide) ?_
    exact z_lret C hQ dL_law_171
  | succ d ih =>
    intro G k s hk h1 C hQ X hB hJ
    have h2 : k < 15 := by omega
    have hB : zBud G (182 * d + 182) := hB
    have next : ∀ xn, xn < 33554432 → zV h ad zLX 5 G s 57 [(3, .int (nI xn)), (0, .ref b), (1, .ref (ad 0)), (2, .int (nI k))] [] := fun xn hx => w_law_rest C hQ X hB h1 h2 hx hJ (fun G' s' C' hQ' X' hB' J' => ih G' (k + 1) s' (by omega) (by omega) C' hQ' X' hB' J')
    refine z_iload_n C dL_law_30 rfl 2 rfl ?_
    refine z_bipush (v := (15 : Int32)) C dL_law_31 (by decide) ?_
    refine z_icmp_ge (tgt := 170) C dL_law_33 (by decide) (fun c => absurd c (nI_ge (b := 15) h2 (by decide))) (fun _ => ?_)
    refine z_aload_n C dL_law_36 rfl 0 rfl ?_
    refine z_slen C X dL_law_37 ?_
    by_cases hz : N = 0
    · refine z_if_ne (tgt := 47) C dL_law_38 (by decide) (fun c => absurd (by rw [hz]; rfl) c) (fun _ => ?_)
      refine z_iconst (v := (3 : Int32)) C dL_law_41 (by decide) ?_
      refine z_iload_n C dL_law_42 rfl 2 rfl ?_
      refine z_imul C dL_law_43 ?_
      refine z_goto (tgt := 56) C dL_law_44 (by decide) ?_
      refine z_istore_n (y := nI (3 * k)) (lv' := [(3, .int (nI (3 * k))), (0, .ref b), (1, .ref (ad 0)), (2, .int (nI k))]) C dL_law_56 rfl (by decide) (n_mul 3 k).symm rfl ?_
      exact next (3 * k) (by omega)
    · have hn0 : ¬ Int32.ofNat N = 0 := nI_ne0 (n := N) (by omega) (by omega)
      have hml : k % N < N := Nat.mod_lt _ (by omega)
      refine z_if_ne (tgt := 47) C dL_law_38 (by decide) (fun _ => ?_) (fun c => absurd c hn0)
      refine z_aload_n C dL_law_47 rfl 0 rfl ?_
      refine z_iload_n C dL_law_48 rfl 2 rfl ?_
      refine z_aload_n C dL_law_49 rfl 0 rfl ?_
      refine z_slen C X dL_law_50 ?_
      refine z_irem C dL_law_51 hn0 ?_
      refine z_top (y := nI (k % N)) (n_rem (a := k) (d := N) (by omega) (by omega)) ?_
      refine z_sld C X (nI_in hml (by omega)) rfl dL_law_52 ?_
      refine z_bipush (v := (7 : Int32)) C dL_law_53 (by decide) ?_
      refine z_iushr C dL_law_55 ?_
      obtain ⟨m, hm, em⟩ := n_ushr7 (xs (nI (k % N)).toNatClampNeg)
      refine z_istore_n (y := nI m) (lv' := [(3, .int (nI m)), (0, .ref b), (1, .ref (ad 0)), (2, .int (nI k))]) C dL_law_56 rfl (by decide) em.symm rfl ?_
      exact next m hm
end P24L
