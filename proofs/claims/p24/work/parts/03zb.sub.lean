section ZS2
/-! worlds inside worlds: a callee's layout is a stretch of the caller's -/
def zAo (ad : Nat → Nat) (o : Nat) : Nat → Nat := fun k => ad (k + o)
def zSo (σ : zS) (o : Nat) : zS := fun k => σ (k + o)
def zMix (o n : Nat) (σ σ1 : zS) : zS := fun k => if o ≤ k ∧ k < o + n then σ1 (k - o) else σ k
def zSh (o : Nat) (kd : zK) : zK := match kd with
  | .inl q => .inl q
  | .inr q => .inr (q.1, q.2.map (fun f => if f < 2 then f else f + o))
def zSb (o : Nat) (lay' lay : List zK) : Prop := ∀ k kd, lay'[k]? = some kd → lay[k + o]? = some (zSh o kd)
variable {tb : List ExceptionTableEntry} {h : zH} {ad : Nat → Nat} {lay lay' : List zK} {nL o : Nat} {G : zG} {cc : ByteArray} {own : String} {Ts : List Cond} {F L : Nat} {σ σ1 σ' : zS} {pc : Nat} {lv lv' : List (Nat × Value)} {st rest : List Value}
theorem zSb_of (hd : (List.range lay'.length).all (fun k => decide (lay[k + o]? = (lay'[k]?).map (zSh o))) = true) : zSb o lay' lay := by
  intro k kd hk
  have hl := (List.getElem?_eq_some_iff.mp hk).1
  have h1 := List.all_eq_true.mp hd k (List.mem_range.mpr hl)
  have h2 := of_decide_eq_true h1
  rw [h2, hk]; rfl
theorem zSb_lt (hs : zSb o lay' lay) {k : Nat} (hk : k < lay'.length) : k + o < lay.length :=
  (List.getElem?_eq_some_iff.mp (hs k _ (List.getElem?_eq_getElem hk))).1
theorem zF_sh {f : Nat → Int32} {i x : Nat} : zF ad f i (if x < 2 then x else x + o) = zF (zAo ad o) f i x := by
  rcases x with _ | _ | x
  · rfl
  · rfl
  · have h1 : ¬ x + 1 + 1 < 2 := by omega
    rw [if_neg h1, show x + 1 + 1 + o = (x + o) + 2 by omega]
    rfl
theorem zE_sh {cA : Nat → ClassId} {f : Nat → Int32} {kd : zK} : zE cA ad f (zSh o kd) = zE cA (zAo ad o) f kd := by
  rcases kd with ⟨z, n⟩ | ⟨ci, fs⟩
  · rcases z with _ | _ | _ | z <;> rfl
  · show (Sum.inr (ci, (fs.map (fun f => if f < 2 then f else f + o)).mapIdx (zF ad f)) : va_E) = Sum.inr (ci, fs.mapIdx (zF (zAo ad o) f))
    congr 2
    apply List.ext_getElem?
    intro i
    simp only [List.getElem?_mapIdx, List.getElem?_map]
    cases fs[i]? with
    | none => rfl
    | some x => exact congrArg some zF_sh
theorem zW_is {cA : Nat → ClassId} {k : Nat} {q : Nat × va_E} (hq : (zW cA ad lay σ)[k]? = some q) : ∃ kd, lay[k]? = some kd ∧ q = (ad k, zE cA ad (σ k) kd) := by
  have hk := (zW_key hq).1
  refine ⟨_, List.getElem?_eq_getElem hk, ?_⟩
  rw [zW_at (List.getElem?_eq_getElem hk)] at hq
  exact (Option.some.inj hq).symm
theorem zPst_sub {H : Heap} (hs : zSb o lay' lay) (hP : zPst h ad lay σ H) : zPst h (zAo ad o) lay' (zSo σ o) H := by
  intro k q hq
  obtain ⟨kd, hk, rfl⟩ := zW_is hq
  have h3 := hP (k + o) _ (zW_at (hs k kd hk))
  rw [zE_sh] at h3
  exact h3
theorem zI_sub (hs : zSb o lay' lay) (hI : zI ad lay.length) : zI (zAo ad o) lay'.length := fun i j hi hj e => by
  have := hI (i + o) (j + o) (zSb_lt hs hi) (zSb_lt hs hj) e
  omega
theorem zA_so (hs : zSb o lay' lay) {a : Nat} : ∀ q, zA (zAo ad o) lay'.length a q → zA ad lay.length a q := by
  rintro q (⟨k, hk, e⟩ | hq)
  · exact Or.inl ⟨k + o, zSb_lt hs hk, e⟩
  · exact Or.inr hq
theorem zPst_back {H H1 : Heap} (hs : zSb o lay' lay) (hI : zI ad lay.length) (hP : zPst h ad lay σ H) (hk1 : ∀ q : Nat, q < H.size → ¬ zA (zAo ad o) lay'.length H.size q → H1[q]? = H[q]?) (hP1 : zPst h (zAo ad o) lay' σ1 H1) : zPst h ad lay (zMix o lay'.length σ σ1) H1 := by
  intro k q hq
  obtain ⟨kd, hk, rfl⟩ := zW_is hq
  by_cases hin : o ≤ k ∧ k < o + lay'.length
  · have hl : k - o < lay'.length := by omega
    have h2 := hs (k - o) _ (List.getElem?_eq_getElem hl)
    rw [show k - o + o = k by omega, hk] at h2
    have h3 := hP1 (k - o) _ (zW_at (List.getElem?_eq_getElem hl))
    have e1 : zMix o lay'.length σ σ1 k = σ1 (k - o) := by unfold zMix; rw [if_pos hin]
    rw [e1, Option.some.inj h2, zE_sh]
    have e2 : zAo ad o (k - o) = ad k := by unfold zAo; rw [show k - o + o = k by omega]
    rw [← e2]
    exact h3
  · have h3 := hP k _ (zW_at hk)
    have e1 : zMix o lay'.length σ σ1 k = σ k := by unfold zMix; rw [if_neg hin]
    rw [e1]
    refine h3.kept (hk1 (ad k) h3.lt ?_)
    rintro (⟨j, hj, e⟩ | hq9)
    · have := hI k (j + o) (List.getElem?_eq_some_iff.mp hk).1 (zSb_lt hs hj) e
      omega
    · exact absurd h3.lt (Nat.not_lt.mpr hq9)
theorem zPre_at2 {A0 : Nat → Prop} {argv : List Value} {s U : State} {H : Heap} {locs : List Loc} (hU : U.heap = H) (hW : s.WarmedH U.vm) (hP : zPst h ad lay σ H) (hK : va_K (h.2.1, h.2.2.1) vwCl (zT h.2.2.2) s) (hN : zHN s) (hZ : zHS A0 s s.heap) (hS : va_S A0 s.heap H locs) (hAB : ∀ q, zA ad lay.length H.size q → A0 q) : zPre h ad lay σ argv H.size argv.toArray U := by
  subst hU
  exact ⟨rfl, rfl, hP, va_K.moved hW.alike hK, zHN_warm hW hN, zHS_to hZ hS.2.1 hAB hW.alike⟩
/-- a method of an object of a part of the world -/
theorem z_dV (C : zCT tb h ad lay nL G cc own Ts F L) {y : MethodName} {ws ws' : List Cond} {bytes : ByteArray} {maxL : Nat} {ret : Option FieldType} {index F' L' : Nat} {r : Int32} {vd : Bool} (n : Nat) (As : List Value) (rest : List Value) {Cn : String} {k ci : Nat} {fs : List Nat} {q : vw_C} (hs : zSb o lay' lay) (hM : zMR h (zAo ad o) lay' vd y ws F' L' (.ref (zAo ad o k) :: As) (zSo σ o) (.inl r) σ1) (hT : GoodIn Ts (wsV own index Cn y ws)) (hd : y.cls = Cn ∧ y.cls ≠ "java/lang/invoke/MethodHandle" ∧ y.cls ≠ "java/lang/invoke/VarHandle" ∧ (parseMethodDescriptor y.desc).map (fun d => d.parameters.length) = some n) (hk : lay'[k]? = some (.inr (ci, fs))) (hc : vwCl[ci]? = some q) (hq : q.1 = Cn) (hst : st = As.reverse ++ .ref (zAo ad o k) :: rest) (hdg : decode cc pc = .ok (.invokevirtual index, 3)) (hw : ws = Cond.code y bytes maxL ret :: ws') (hR : F' + 1 ≤ F ∧ 8 + (maxL + 11) + L' ≤ L) (hn : As.length = n) (hW : (rest.map fun v => v.category).sum ≤ 8)
    (kk : zV h ad lay nL G (zMix o lay'.length σ σ1) (pc + 3) lv (zRv vd r rest)) : zV h ad lay nL G σ pc lv st := by
  obtain ⟨p, e, R, s, m, args, below, meth, c, Q, cells, slots⟩ := G
  obtain ⟨⟨hx, hb, hml, hown, hts⟩, hK, hI, hN, hZ, hlocks, hnt, hF, hL, hst9, hcs, hss⟩ := C
  intro H locs ls hP hS hl
  have hRR : F' + 1 ≤ R.frames ∧ 8 + (maxL + 11) + L' ≤ R.locals := by rw [hF, hL]; exact hR
  have hP' := zPst_sub hs hP
  have hA : ∀ q, zA (zAo ad o) lay'.length H.size q → zA ad lay.length s.heap.size q := fun q hq => zA_sub hS.1 q (zA_so hs q hq)
  have hRun := va_runV (g := F0 m pc ls st) (rest := rest) (H := H) (cells := cells) (slots := slots) (locs := locs) (below := below) (meth := meth) (e := e) ⟨hx, hb, hml, hown, hts⟩ (hM H.size) (cwV n hts hT hw rfl rfl hd hRR) ⟨zPre_blind, hq ▸ va_recv hK hP' hc (zW_at hk), fun U hU hW9 => zPre_at2 hU hW9 hP' hK hN hZ hS hA⟩ rfl hn hl.1 hst (lv_room hW) hdg ⟨hcs, hss⟩
  cases vd with
  | true => exact va_callv (a := #[]) hRun hS (fun q _ h => hA q h) hA (fun u t H1 locs1 ht hvm hw hB hz hk1 hS1 => kk H1 locs1 ls (zPst_back hs hI hP hk1 (by rw [← ht]; exact hB)) hS1 hl)
  | false => exact va_calli (a := #[]) hRun hS (fun q _ h => hA q h) hA (fun r9 u t H1 locs1 ht hvm hw hB hz hk1 hS1 => by subst hw; exact kk H1 locs1 ls (zPst_back hs hI hP hk1 (by rw [← ht]; exact hB)) hS1 hl)
/-! helpers: methods that catch; at most one cell of six slots is made -/
def zMH (h : zH) (ad : Nat → Nat) (lay : List zK) (y : MethodName) (ws : List Cond) (F L : Nat) (argv : List Value) (σ : zS) (r : Int32) (σ' : zS) : Prop :=
  ∀ sz, Met h.1 y ws { frames := F, cells := 1, slots := 6, locals := L } (zPre h ad lay σ argv sz) (zQc h ad lay false (zA ad lay.length sz) r σ') 1 6 (zA ad lay.length sz)
def zQh (h : zH) (ad : Nat → Nat) (lay : List zK) (G : zG) (r : Int32) (σ' : zS) (ret : Option FieldType) : Prop := match G with
  | (_, _, R, s, _, args, below, meth, _, Q, cells, slots) => Q = MQ below (zQc h ad lay false (zA ad lay.length s.heap.size) r σ') args s 1 6 (zA ad lay.length s.heap.size) ∧ meth.sig.returnType = ret ∧ 1 ≤ R.cells ∧ 6 ≤ R.slots ∧ cells = 0 ∧ slots = 0
theorem z_ofWH {l : Launch} {y : MethodName} {ws ws' : List Cond} {rm : Room} {Pc : Array Value → State → Prop} {Qc : Array Value → State → Outcome → State → Prop} {mc ms : Nat} {free : Addr → Prop} {cc : ByteArray} {maxL : Nat} {ret : Option FieldType} {hh : List (Nat × Nat × Nat × Nat)}
    (hy : plainName y.cls = true) (hw : ws = Cond.codeWith y cc maxL ret hh :: ws')
    (body : ∀ p e s m args below meth c s₁, BodyLoose p l y (headSpec ws rm) cc maxL ret e s m args below meth c s₁ → c.maxLocals = maxL → Pc args s →
      W p l e (headSpec ws rm).room s m args below meth c s.heap [] 0 0 (MQ below Qc args s mc ms free) (entryFrame m args maxL)) : Met l y ws rm Pc Qc mc ms free := by
  refine MetFree.of_bodyS (code := cc) (maxLocals := maxL) (ret := ret) hy ?_ ?_
  · intro args s m h hn
    obtain ⟨m9, meth, c, hn9, h1, h2, h3, h4, -, h5, h6, -⟩ := Cond.codeWith_spec (atoms_spec (ws := ws) h _ (by rw [hw]; exact List.mem_cons_self))
    cases hn.symm.trans hn9
    exact ⟨meth, c, h1, h2, h3, h4, h5, h6⟩
  · intro p e s m args below meth c s₁ B hml hP _
    have hh0 : s₁.heap = s.heap := by rw [B.state]; rfl
    obtain ⟨t, a1, o, b1, b2, b3⟩ := body p e s m args below meth c s₁ B hml hP s₁ hh0 (Stand.of_body B)
    exact ⟨t, o, a1, b1, b2, ⟨b3.1, b3.2⟩⟩
theorem z_startH {y : MethodName} {ws ws' : List Cond} {ret : Option FieldType} {argv : List Value} {r : Int32} {hh : List (Nat × Nat × Nat × Nat)} (hy : plainName y.cls = true) (hw : ws = Cond.codeWith y cc nL ret hh :: ws') (hown : y.cls = own) (hI : zI ad lay.length) (hst : h.1.stackTraces = false) (hlen : (lg_sl argv).length ≤ nL)
    (body : ∀ G, zCT (tableOf hh) h ad lay nL G cc own ws F L → zQh h ad lay G r σ' ret → zV h ad lay nL G σ 0 (lv_args 0 argv) []) : zMH h ad lay y ws F L argv σ r σ' := by
  intro sz
  refine z_ofWH (cc := cc) (maxL := nL) (ret := ret) hy hw ?_
  intro p e s m args below meth c s₁ B hml hv
  obtain ⟨rfl, hsz, hP, hK, hN, hZ⟩ := hv
  subst hsz
  have tab : c.exceptionTable.toList = tableOf hh := vx_table (x := y) B (atoms_spec (ws := ws) B.pre _ (by rw [hw]; exact List.mem_cons_self))
  rw [lg_entry_eq]
  exact body (p, e, { frames := F, cells := 1, slots := 6, locals := L }, s, m, argv.toArray, below, meth, c, _, 0, 0) ⟨⟨B.exec, B.bytes, hml, by rw [← hown]; exact findClass_of_methodNamed B.named, atoms_spec (ws := ws) B.pre⟩, hK, hI, hN, hZ, B.notSynchronized, tab, rfl, rfl, hst, Nat.zero_le _, Nat.zero_le _⟩ ⟨rfl, B.returns, Nat.le_refl _, Nat.le_refl _, rfl, rfl⟩ s.heap [] _ hP va_S.rf (lv_entry argv hlen)
theorem z_hret (C : zCT tb h ad lay nL G cc own Ts F L) {r v : Int32} (hQ : zQh h ad lay G r σ' (some .int)) (hr : r = v) (hs : σ' = σ) (hdg : decode cc pc = .ok (.ireturn, 1)) : zV h ad lay nL G σ pc lv [.int v] := by
  obtain ⟨p, e, R, s, m, args, below, meth, c, Q, cells, slots⟩ := G
  obtain ⟨⟨hx, hb, hml, hown, hts⟩, hK, hI, hN, hZ, hlocks, hnt, hF, hL, hst9, hcs, hss⟩ := C
  subst hr; subst hs
  obtain ⟨rfl, hret, hr1, hr2, rfl, rfl⟩ := hQ
  exact fun H locs ls hP hS hl => W.widen (k := 1) (n := 6) (Nat.zero_le _) (Nat.zero_le _) (W.iret hx hb hret (fun t ht hW => ⟨⟨r, (), rfl, rfl, (ht ▸ hP : zPst h ad lay _ t.heap)⟩, hS.F ht⟩) hS.2.2 hdg)
/-- the callee throws, and a row of this method's table takes it: 'astore; iconst; ireturn' -/
theorem z_hx (C : zCT tb h ad lay nL G cc own Ts F L) {y : MethodName} {ws ws' : List Cond} {bytes : ByteArray} {maxL : Nat} {ret : Option FieldType} {index F' L' : Nat} {r : Int32} {ex : Nat} {vd : Bool} (n : Nat) (As : List Value) (rest : List Value) {Cn : String} {k ci : Nat} {fs : List Nat} {q : vw_C} (hs : zSb o lay' lay) (hM : zMR h (zAo ad o) lay' vd y ws F' L' (.ref (zAo ad o k) :: As) (zSo σ o) (.inr ex) σ1) (hQ : zQh h ad lay G r σ' (some .int)) (hT : GoodIn Ts (wsV own index Cn y ws)) (hd : y.cls = Cn ∧ y.cls ≠ "java/lang/invoke/MethodHandle" ∧ y.cls ≠ "java/lang/invoke/VarHandle" ∧ (parseMethodDescriptor y.desc).map (fun d => d.parameters.length) = some n) (hk : lay'[k]? = some (.inr (ci, fs))) (hc : vwCl[ci]? = some q) (hq : q.1 = Cn) (hst : st = As.reverse ++ .ref (zAo ad o k) :: rest) (hdg : decode cc pc = .ok (.invokevirtual index, 3)) (hw : ws = Cond.code y bytes maxL ret :: ws') (hR : F' + 1 ≤ F ∧ 8 + (maxL + 11) + L' ≤ L) (hn : As.length = n) (hW : (rest.map fun v => v.category).sum ≤ 8)
    (pre : List ExceptionTableEntry) (x : ExceptionTableEntry) (suf : List ExceptionTableEntry) (htb : tb = pre ++ x :: suf) (hpass : ∀ z ∈ pre, z.catchType ≠ 0 ∧ ∃ j, Cond.classLink own z.catchType (zEx j) ∈ Ts ∧ zEx ex ≠ zEx j) (hcov : covers x pc = true) (h0 : x.catchType ≠ 0) (hlink : Cond.classLink own x.catchType (zEx ex) ∈ Ts)
    {i len : Nat} {v : Int32} {nv : Int} (ha : (decode cc x.handlerPc = .ok (.astore i, 2) ∧ len = 2) ∨ (∃ kf : Fin 4, (kf : Nat) = i ∧ decode cc x.handlerPc = .ok (.astore_n kf, 1) ∧ len = 1)) (hi : i < nL) (hv : Int32.ofInt nv = v) (d2 : decode cc (x.handlerPc + len) = .ok (.iconst nv, 1)) (d3 : decode cc (x.handlerPc + len + 1) = .ok (.ireturn, 1)) (hr : r = v) (hs9 : σ' = zMix o lay'.length σ σ1) : zV h ad lay nL G σ pc lv st := by
  obtain ⟨p, e, R, s, m, args, below, meth, c, Q, cells, slots⟩ := G
  obtain ⟨⟨hx, hb, hml, hown, hts⟩, hK, hI, hN, hZ, hlocks, hnt, hF, hL, hst9, hcs, hss⟩ := C
  subst hr; subst hs9
  obtain ⟨rfl, hret, hr1, hr2, rfl, rfl⟩ := hQ
  intro H locs ls hP hS hl
  have hRR : F' + 1 ≤ R.frames ∧ 8 + (maxL + 11) + L' ≤ R.locals := by rw [hF, hL]; exact hR
  have hP' := zPst_sub hs hP
  have hA : ∀ q, zA (zAo ad o) lay'.length H.size q → zA ad lay.length s.heap.size q := fun q hq => zA_sub hS.1 q (zA_so hs q hq)
  refine vx_callv (vx_runV (g := F0 m pc ls st) (rest := rest) (H := H) (cells := 0) (slots := 0) (locs := locs) (below := below) (meth := meth) (e := e) ⟨hx, hb, hml, hown, hts⟩ (hM H.size) (cwV n hts hT hw rfl rfl hd hRR) ⟨zPre_blind, hq ▸ va_recv hK hP' hc (zW_at hk), fun U hU hW9 => zPre_at2 hU hW9 hP' hK hN hZ hS hA⟩ rfl hn hl.1 hst (lv_room hW) hdg ⟨by omega, by omega⟩) hS (fun q _ h => hA q h) hA (fun q _ h => hA q h) (fun E ce q9 u t H1 locs1 ht hvm hpx hB hz hk1 hS1 hce hcv hcl => ?_) (fun u t H1 locs1 ht hvm hw hB hz hk1 hS1 => hw.elim)
  obtain ⟨rfl, hB2⟩ := hB
  have hP1 := zPst_back (σ1 := σ1) hs hI hP hk1 (by rw [← ht]; exact hB2)
  refine vx_catch hown pre x suf (by rw [hnt]; exact htb) (fun z hz => ?_) hcov h0 (hts _ hlink) (va_Nw.use rfl (hN.2.1 ex)) hce hcv hcl ?_
  · obtain ⟨h1, j, h2, h3⟩ := hpass z hz
    exact Or.inr ⟨h1, zEx j, hts _ h2, hN.2.2.2 ex j h3⟩
  have fin : ∀ ls' : Array Slot, lv_has ls' nL ((i, Value.ref q9) :: lv.filter (fun q => !(q.1 == i) && !(q.1 + 1 == i && q.2.category == 2))) → W p h.1 e R s m args below meth c H1 locs1 (0 + 1) (0 + 6) (MQ below (zQc h ad lay false (zA ad lay.length s.heap.size) r (zMix o lay'.length σ σ1)) args s 1 6 (zA ad lay.length s.heap.size)) (F0 m (x.handlerPc + len) ls' []) := by
    intro ls' hl'
    refine lv_iconst hx hb d2 hv ?_
    exact W.iret hx hb hret (fun t9 ht9 hW9 => ⟨⟨r, (), rfl, rfl, (ht9 ▸ hP1 : zPst h ad lay _ t9.heap)⟩, hS1.F ht9⟩) hS1.2.2 d3
  rcases ha with ⟨d1, rfl⟩ | ⟨kf, hkf, d1, rfl⟩
  · exact lv_astore hx hb d1 hl hi rfl fin
  · exact lv_astore_n hx hb d1 hkf hl hi rfl fin
/-! the law's own rows -/
def zGp (G : zG) : zG := match G with
  | (p, e, R, s, m, args, below, meth, c, Q, cells, slots) => (p, e, R, s, m, args, below, meth, c, Q, cells + 1, slots + 6)
def zRoom (G : zG) : Prop := match G with
  | (_, _, R, _, _, _, _, _, _, _, cells, slots) => cells + 1 ≤ R.cells ∧ slots + 6 ≤ R.slots
theorem zCT_p (C : zCT tb h ad lay nL G cc own Ts F L) (hr : zRoom G) : zCT tb h ad lay nL (zGp G) cc own Ts F L := by
  obtain ⟨p, e, R, s, m, args, below, meth, c, Q, cells, slots⟩ := G
  obtain ⟨h0, hK, hI, hN, hZ, hlocks, hnt, hF, hL, hst9, hcs, hss⟩ := C
  exact ⟨h0, hK, hI, hN, hZ, hlocks, hnt, hF, hL, hst9, hr.1, hr.2⟩
theorem z_lS (C : zCT tb h ad lay nL G cc own Ts F L) {y : MethodName} {ws ws' : List Cond} {bytes : ByteArray} {maxL : Nat} {ret : Option FieldType} {hh : List (Nat × Nat × Nat × Nat)} {index F' L' : Nat} {r : Int32} (n : Nat) (As : List Value) (rest : List Value) (hr : zRoom G) (hM : zMH h ad lay y ws F' L' As σ r σ1) (hT : GoodIn Ts (va_wsS own index y ws)) (hd : y.cls ≠ "java/lang/invoke/MethodHandle" ∧ y.cls ≠ "java/lang/invoke/VarHandle" ∧ (parseMethodDescriptor y.desc).map (fun d => d.parameters.length) = some n) (hst : st = As.reverse ++ rest) (hdg : decode cc pc = .ok (.invokestatic index, 3)) (hw : ws = Cond.codeWith y bytes maxL ret hh :: ws') (hR : F' + 1 ≤ F ∧ 8 + (maxL + 11) + L' ≤ L) (hn : As.length = n) (hW : (rest.map fun v => v.category).sum ≤ 8)
    (kk : zV h ad lay nL (zGp G) σ1 (pc + 3) lv (.int r :: rest)) : zV h ad lay nL G σ pc lv st := by
  obtain ⟨p, e, R, s, m, args, below, meth, c, Q, cells, slots⟩ := G
  obtain ⟨⟨hx, hb, hml, hown, hts⟩, hK, hI, hN, hZ, hlocks, hnt, hF, hL, hst9, hcs, hss⟩ := C
  intro H locs ls hP hS hl
  have hRR : F' + 1 ≤ R.frames ∧ 8 + (maxL + 11) + L' ≤ R.locals := by rw [hF, hL]; exact hR
  have hA : ∀ q, zA ad lay.length H.size q → zA ad lay.length s.heap.size q := zA_sub hS.1
  have hRun := vx_runSW (hh := hh) (g := F0 m pc ls st) (rest := rest) (H := H) (cells := cells) (slots := slots) (locs := locs) (below := below) (meth := meth) (e := e) ⟨hx, hb, hml, hown, hts⟩ (hM H.size) (vx_cwSW n hts hT hw rfl rfl hd hRR) ⟨zPre_blind, fun U hU hW9 => zPre_at hU hW9 hP hK hN hZ hS⟩ rfl hn hl.1 hst (lv_room hW) hdg hr
  exact va_calli (a := #[]) hRun hS (fun q _ h => hA q h) hA (fun r9 u t H1 locs1 ht hvm hw hB hz hk1 hS1 => by subst hw; exact kk H1 locs1 ls (by rw [← ht]; exact hB) hS1 hl)
def zScr (ad : Nat → Nat) (lay : List zK) (G : zG) (b N : Nat) (xs : Nat → Int32) : Prop := match G with
  | (_, _, _, s, _) => va_X b N xs s s.heap ∧ b < s.heap.size ∧ ¬ zA ad lay.length s.heap.size b
theorem zScr_p {b N : Nat} {xs : Nat → Int32} (X : zScr ad lay G b N xs) : zScr ad lay (zGp G) b N xs := by
  obtain ⟨p, e, R, s, m, args, below, meth, c, Q, cells, slots⟩ := G
  exact X
theorem z_sld (C : zCT tb h ad lay nL G cc own Ts F L) {b N : Nat} {xs : Nat → Int32} (X : zScr ad lay G b N xs) {i v : Int32} (hin : vp_in i N) (hv : v = xs i.toNatClampNeg) (hdg : decode cc pc = .ok (.iaload, 1))
    (kk : zV h ad lay nL G σ (pc + 1) lv (.int v :: st)) : zV h ad lay nL G σ pc lv (.int i :: .ref b :: st) := by
  obtain ⟨p, e, R, s, m, args, below, meth, c, Q, cells, slots⟩ := G
  obtain ⟨⟨hx, hb, hml, hown, hts⟩, hK, hI, hN, hZ, hlocks, hnt, hF, hL, hst9, hcs, hss⟩ := C
  obtain ⟨hX, hbl, hbA⟩ := X
  subst hv
  exact fun H locs ls hP hS hl => va_sld hx hb hX hbl hbA hS hin hdg (kk H locs ls hP hS hl)
theorem z_slen (C : zCT tb h ad lay nL G cc own Ts F L) {b N : Nat} {xs : Nat → Int32} (X : zScr ad lay G b N xs) (hdg : decode cc pc = .ok (.arraylength, 1))
    (kk : zV h ad lay nL G σ (pc + 1) lv (.int (Int32.ofNat N) :: st)) : zV h ad lay nL G σ pc lv (.ref b :: st) := by
  obtain ⟨p, e, R, s, m, args, below, meth, c, Q, cells, slots⟩ := G
  obtain ⟨⟨hx, hb, hml, hown, hts⟩, hK, hI, hN, hZ, hlocks, hnt, hF, hL, hst9, hcs, hss⟩ := C
  obtain ⟨hX, hbl, hbA⟩ := X
  exact fun H locs ls hP hS hl => va_slen hx hb hX hbl hbA hS hdg (kk H locs ls hP hS hl)
theorem z_lcmp (C : zCT tb h ad lay nL G cc own Ts F L) {x y : Int64} (hdg : decode cc pc = .ok (.lcmp, 1))
    (kk : zV h ad lay nL G σ (pc + 1) lv (.int (lg_cmp x y) :: st)) : zV h ad lay nL G σ pc lv (.long y :: .long x :: st) := by
  obtain ⟨p, e, R, s, m, args, below, meth, c, Q, cells, slots⟩ := G
  obtain ⟨⟨hx, hb, hml, hown, hts⟩, hK, hI, hN, hZ, hlocks, hnt, hF, hL, hst9, hcs, hss⟩ := C
  exact fun H locs ls hP hS hl => W.lcmp hx hb hdg (kk H locs ls hP hS hl)
end ZS2
