section P24R
/-! the law's rows: methods that make cells, and catch -/
variable {tb : List ExceptionTableEntry} {h : zH} {ad ad0 : Nat → Nat} {lay lay' : List zK} {nL o : Nat} {G : zG} {cc : ByteArray} {own : String} {Ts : List Cond} {F L : Nat} {σ σ1 σ' : zS} {pc : Nat} {lv lv' : List (Nat × Value)} {st rest : List Value}
theorem z_ineg (C : zCT tb h ad lay nL G cc own Ts F L) {x : Int32} (hdg : decode cc pc = .ok (.ineg, 1)) (k : zV h ad lay nL G σ (pc + 1) lv (.int (-x) :: st)) : zV h ad lay nL G σ pc lv (.int x :: st) := by
  obtain ⟨p, e, R, s, m, args, below, meth, c, Q, cells, slots⟩ := G
  obtain ⟨⟨hx, hb, hml, hown, hts⟩, hK, hI, hN, hZ, hlocks, hnt, hF, hL, hst, hcs, hss⟩ := C
  exact fun H locs ls hP hS hl => lv_ineg hx hb hdg (k H locs ls hP hS hl)
/-- the number on top in other words -/
theorem z_top {x y : Int32} (hxy : x = y) (k : zV h ad lay nL G σ pc lv (.int y :: st)) : zV h ad lay nL G σ pc lv (.int x :: st) := by subst hxy; exact k
/-- what the law's methods carry along -/
def zBud (G : zG) (f : Nat) : Prop := match G with
  | (_, _, R, _, _, _, _, _, _, _, cells, slots) => cells + f ≤ R.cells ∧ slots + 6 * f ≤ R.slots
def zGa (G : zG) (a b : Nat) : zG := match G with
  | (p, e, R, s, m, args, below, meth, c, Q, cells, slots) => (p, e, R, s, m, args, below, meth, c, Q, cells + a, slots + b)
theorem zBud_r {f : Nat} (hB : zBud G (f + 1)) : zRoom G := by
  obtain ⟨p, e, R, s, m, args, below, meth, c, Q, cells, slots⟩ := G
  obtain ⟨h1, h2⟩ := hB
  exact ⟨by omega, by omega⟩
theorem zBud_p {f : Nat} (hB : zBud G (f + 1)) : zBud (zGp G) f := by
  obtain ⟨p, e, R, s, m, args, below, meth, c, Q, cells, slots⟩ := G
  obtain ⟨h1, h2⟩ := hB
  refine ⟨?_, ?_⟩
  · show cells + 1 + f ≤ R.cells
    omega
  · show slots + 6 + 6 * f ≤ R.slots
    omega
theorem zBud_a {f a : Nat} (hB : zBud G (f + a)) : zBud (zGa G a (6 * a)) f := by
  obtain ⟨p, e, R, s, m, args, below, meth, c, Q, cells, slots⟩ := G
  obtain ⟨h1, h2⟩ := hB
  refine ⟨?_, ?_⟩
  · show cells + a + f ≤ R.cells
    omega
  · show slots + 6 * a + 6 * f ≤ R.slots
    omega
theorem zCT_a {a b : Nat} (C : zCT tb h ad lay nL G cc own Ts F L) (hB : zBud G a) (hb : b ≤ 6 * a) : zCT tb h ad lay nL (zGa G a b) cc own Ts F L := by
  obtain ⟨p, e, R, s, m, args, below, meth, c, Q, cells, slots⟩ := G
  obtain ⟨h0, hK, hI, hN, hZ, hlocks, hnt, hF, hL, hst9, hcs, hss⟩ := C
  obtain ⟨h1, h2⟩ := hB
  exact ⟨h0, hK, hI, hN, hZ, hlocks, hnt, hF, hL, hst9, h1, Nat.le_trans (Nat.add_le_add_left hb _) h2⟩
theorem zBud_le {f g : Nat} (hB : zBud G f) (hg : g ≤ f) : zBud G g := by
  obtain ⟨p, e, R, s, m, args, below, meth, c, Q, cells, slots⟩ := G
  obtain ⟨h1, h2⟩ := hB
  exact ⟨by omega, by omega⟩
/-- a method's contract that makes some cells, and answers an int -/
def zMk (mc ms : Nat) (h : zH) (ad : Nat → Nat) (lay : List zK) (y : MethodName) (ws : List Cond) (F L : Nat) (argv : List Value) (σ : zS) (r : Int32) (σ' : zS) : Prop :=
  ∀ sz, Met h.1 y ws { frames := F, cells := mc, slots := ms, locals := L } (zPre h ad lay σ argv sz) (zQc h ad lay false (zA ad lay.length sz) r σ') mc ms (zA ad lay.length sz)
def zQf (mc ms : Nat) (h : zH) (ad : Nat → Nat) (lay : List zK) (r : Int32) (σ' : zS) (G : zG) : Prop := match G with
  | (_, _, R, s, _, args, below, meth, _, Q, _, _) => Q = MQ below (zQc h ad lay false (zA ad lay.length s.heap.size) r σ') args s mc ms (zA ad lay.length s.heap.size) ∧ meth.sig.returnType = some .boolean ∧ R.cells = mc ∧ R.slots = ms
theorem zQf_a {mc ms a b : Nat} {r : Int32} (hQ : zQf mc ms h ad lay r σ' G) : zQf mc ms h ad lay r σ' (zGa G a b) := by
  obtain ⟨p, e, R, s, m, args, below, meth, c, Q, cells, slots⟩ := G
  exact hQ
theorem zQf_p {mc ms : Nat} {r : Int32} (hQ : zQf mc ms h ad lay r σ' G) : zQf mc ms h ad lay r σ' (zGp G) := by
  obtain ⟨p, e, R, s, m, args, below, meth, c, Q, cells, slots⟩ := G
  exact hQ
theorem z_startK {mc ms f : Nat} {y : MethodName} {ws ws' : List Cond} {argv : List Value} {r : Int32} (hy : plainName y.cls = true) (hw : ws = Cond.code y cc nL (some .boolean) :: ws') (hown : y.cls = own) (hI : zI ad lay.length) (hst : h.1.stackTraces = false) (hlen : (lg_sl argv).length ≤ nL) (hf : f ≤ mc ∧ 6 * f ≤ ms)
    (body : ∀ G, zCT [] h ad lay nL G cc own ws F L → zQf mc ms h ad lay r σ' G → zBud G f → zV h ad lay nL G σ 0 (lv_args 0 argv) []) : zMk mc ms h ad lay y ws F L argv σ r σ' := by
  have tab : ∀ {p : Program} {rm : Room} {e : Env} {s : State} {m : MethodId} {args : Array Value} {below : List Frame} {meth : Method} {c : Code} {s₁ : State}, BodyLoose p h.1 y (headSpec ws rm) cc nL (some .boolean) e s m args below meth c s₁ → c.exceptionTable.toList = [] := by
    intro p rm e s m args below meth c s₁ B
    obtain ⟨meth9, c9, h1, h2, -, -, -, -, h7, -⟩ := Cond.code_spec B.named (atoms_spec (ws := ws) B.pre _ (by rw [hw]; exact List.mem_cons_self))
    cases Option.some.inj (h1.symm.trans B.method)
    cases Option.some.inj (h2.symm.trans (Stand.of_body B).code)
    rw [Array.isEmpty_iff.mp h7]
  intro sz
  refine Met.ofW (cc := cc) (maxL := nL) (ret := some .boolean) hy hw ?_
  intro p e s m args below meth c s₁ B hml hv
  obtain ⟨rfl, hsz, hP, hK, hN, hZ⟩ := hv
  subst hsz
  rw [lg_entry_eq]
  exact body (p, e, { frames := F, cells := mc, slots := ms, locals := L }, s, m, argv.toArray, below, meth, c, _, 0, 0) ⟨⟨B.exec, B.bytes, hml, by rw [← hown]; exact findClass_of_methodNamed B.named, atoms_spec (ws := ws) B.pre⟩, hK, hI, hN, hZ, B.notSynchronized, tab B, rfl, rfl, hst, Nat.zero_le _, Nat.zero_le _⟩ ⟨rfl, B.returns, rfl, rfl⟩ ⟨by rw [Nat.zero_add]; exact hf.1, by rw [Nat.zero_add]; exact hf.2⟩ s.heap [] _ hP va_S.rf (lv_entry argv hlen)
theorem z_fret (C : zCT tb h ad lay nL G cc own Ts F L) {mc ms : Nat} {r v : Int32} (hQ : zQf mc ms h ad lay r σ' G) (hr : r = v) (hs : σ' = σ) (hn : vp_nar .boolean v = v) (hdg : decode cc pc = .ok (.ireturn, 1)) : zV h ad lay nL G σ pc lv [.int v] := by
  obtain ⟨p, e, R, s, m, args, below, meth, c, Q, cells, slots⟩ := G
  obtain ⟨⟨hx, hb, hml, hown, hts⟩, hK, hI, hN, hZ, hlocks, hnt, hF, hL, hst9, hcs, hss⟩ := C
  subst hr; subst hs
  obtain ⟨rfl, hret, hr1, hr2⟩ := hQ
  have hn2 : narrow .boolean (.int r) = .int r := congrArg Value.int hn
  exact fun H locs ls hP hS hl => W.widen (k := mc) (n := ms) (by rw [← hr1]; exact hcs) (by rw [← hr2]; exact hss) (W.zret hx hb hret hn2 (fun t ht hW => ⟨⟨r, (), rfl, rfl, (ht ▸ hP : zPst h ad lay _ t.heap)⟩, hS.F ht⟩) hS.2.2 hdg)
/-- a static method that makes cells is called -/
theorem z_lK (C : zCT tb h ad lay nL G cc own Ts F L) {y : MethodName} {ws ws' : List Cond} {bytes : ByteArray} {maxL mc ms f : Nat} {ret : Option FieldType} {index F' L' : Nat} {r : Int32} (n : Nat) (As : List Value) (rest : List Value) (hB : zBud G (f + mc)) (hms : ms = 6 * mc) (hM : zMk mc ms h ad lay y ws F' L' As σ r σ1) (hT : GoodIn Ts (va_wsS own index y ws)) (hd : y.cls ≠ "java/lang/invoke/MethodHandle" ∧ y.cls ≠ "java/lang/invoke/VarHandle" ∧ (parseMethodDescriptor y.desc).map (fun d => d.parameters.length) = some n) (hst : st = As.reverse ++ rest) (hdg : decode cc pc = .ok (.invokestatic index, 3)) (hw : ws = Cond.code y bytes maxL ret :: ws') (hR : F' + 1 ≤ F ∧ 8 + (maxL + 11) + L' ≤ L) (hn : As.length = n) (hW : (rest.map fun v => v.category).sum ≤ 8)
    (kk : zV h ad lay nL (zGa G mc ms) σ1 (pc + 3) lv (.int r :: rest)) : zV h ad lay nL G σ pc lv st := by
  obtain ⟨p, e, R, s, m, args, below, meth, c, Q, cells, slots⟩ := G
  obtain ⟨⟨hx, hb, hml, hown, hts⟩, hK, hI, hN, hZ, hlocks, hnt, hF, hL, hst9, hcs, hss⟩ := C
  obtain ⟨b1, b2⟩ := hB
  intro H locs ls hP hS hl
  have hRR : F' + 1 ≤ R.frames ∧ 8 + (maxL + 11) + L' ≤ R.locals := by rw [hF, hL]; exact hR
  have hA : ∀ q, zA ad lay.length H.size q → zA ad lay.length s.heap.size q := zA_sub hS.1
  have hRun := va_runS (g := F0 m pc ls st) (rest := rest) (H := H) (cells := cells) (slots := slots) (locs := locs) (below := below) (meth := meth) (e := e) ⟨hx, hb, hml, hown, hts⟩ (hM H.size) (va_cwS n hts hT hw rfl rfl hd hRR) ⟨zPre_blind, fun U hU hW9 => zPre_at hU hW9 hP hK hN hZ hS⟩ rfl hn hl.1 hst (lv_room hW) hdg ⟨by omega, by omega⟩
  exact va_calli (a := #[]) hRun hS (fun q _ h => hA q h) hA (fun r9 u t H1 locs1 ht hvm hw hB hz hk1 hS1 => by subst hw; exact kk H1 locs1 ls (by rw [← ht]; exact hB) hS1 hl)
/-- the callee throws, and a row of this method's table takes it: 'astore; bipush; ireturn' -/
theorem z_hv (C : zCT tb h ad lay nL G cc own Ts F L) {y : MethodName} {ws ws' : List Cond} {bytes : ByteArray} {maxL : Nat} {ret : Option FieldType} {index F' L' : Nat} {r : Int32} {ex : Nat} {vd : Bool} (n : Nat) (As : List Value) (rest : List Value) {Cn : String} {k ci : Nat} {fs : List Nat} {q : vw_C} (hM : zMR h ad lay vd y ws F' L' (.ref (ad k) :: As) σ (.inr ex) σ1) (hQ : zQh h ad lay G r σ' (some .int)) (hT : GoodIn Ts (wsV own index Cn y ws)) (hd : y.cls = Cn ∧ y.cls ≠ "java/lang/invoke/MethodHandle" ∧ y.cls ≠ "java/lang/invoke/VarHandle" ∧ (parseMethodDescriptor y.desc).map (fun d => d.parameters.length) = some n) (hk : lay[k]? = some (.inr (ci, fs))) (hc : vwCl[ci]? = some q) (hq : q.1 = Cn) (hst : st = As.reverse ++ .ref (ad k) :: rest) (hdg : decode cc pc = .ok (.invokevirtual index, 3)) (hw : ws = Cond.code y bytes maxL ret :: ws') (hR : F' + 1 ≤ F ∧ 8 + (maxL + 11) + L' ≤ L) (hn : As.length = n) (hW : (rest.map fun v => v.category).sum ≤ 8)
    (pre : List ExceptionTableEntry) (x : ExceptionTableEntry) (suf : List ExceptionTableEntry) (htb : tb = pre ++ x :: suf) (hpass : ∀ z ∈ pre, z.catchType ≠ 0 ∧ ∃ j, Cond.classLink own z.catchType (zEx j) ∈ Ts ∧ zEx ex ≠ zEx j) (hcov : covers x pc = true) (h0 : x.catchType ≠ 0) (hlink : Cond.classLink own x.catchType (zEx ex) ∈ Ts)
    {i : Nat} {v : Int32} {nv : Int} (ha : decode cc x.handlerPc = .ok (.astore i, 2)) (hi : i < nL) (hv : (Int8.ofInt nv).toInt32 = v) (d2 : decode cc (x.handlerPc + 2) = .ok (.bipush nv, 2)) (d3 : decode cc (x.handlerPc + 2 + 2) = .ok (.ireturn, 1)) (hr : r = v) (hs9 : σ' = σ1) : zV h ad lay nL G σ pc lv st := by
  obtain ⟨p, e, R, s, m, args, below, meth, c, Q, cells, slots⟩ := G
  obtain ⟨⟨hx, hb, hml, hown, hts⟩, hK, hI, hN, hZ, hlocks, hnt, hF, hL, hst9, hcs, hss⟩ := C
  subst hr; subst hs9
  obtain ⟨rfl, hret, hr1, hr2, rfl, rfl⟩ := hQ
  intro H locs ls hP hS hl
  have hRR : F' + 1 ≤ R.frames ∧ 8 + (maxL + 11) + L' ≤ R.locals := by rw [hF, hL]; exact hR
  have hA : ∀ q, zA ad lay.length H.size q → zA ad lay.length s.heap.size q := zA_sub hS.1
  refine vx_callv (vx_runV (g := F0 m pc ls st) (rest := rest) (H := H) (cells := 0) (slots := 0) (locs := locs) (below := below) (meth := meth) (e := e) ⟨hx, hb, hml, hown, hts⟩ (hM H.size) (cwV n hts hT hw rfl rfl hd hRR) ⟨zPre_blind, hq ▸ va_recv hK hP hc (zW_at hk), fun U hU hW9 => zPre_at hU hW9 hP hK hN hZ hS⟩ rfl hn hl.1 hst (lv_room hW) hdg ⟨by omega, by omega⟩) hS (fun q _ h => hA q h) hA (fun q _ h => hA q h) (fun E ce q9 u t H1 locs1 ht hvm hpx hB hz hk1 hS1 hce hcv hcl => ?_) (fun u t H1 locs1 ht hvm hw hB hz hk1 hS1 => hw.elim)
  obtain ⟨rfl, hB2⟩ := hB
  have hP1 : zPst h ad lay σ' H1 := by rw [← ht]; exact hB2
  refine vx_catch hown pre x suf (by rw [hnt]; exact htb) (fun z hz => ?_) hcov h0 (hts _ hlink) (va_Nw.use rfl (hN.2.1 ex)) hce hcv hcl ?_
  · obtain ⟨h1, j, h2, h3⟩ := hpass z hz
    exact Or.inr ⟨h1, zEx j, hts _ h2, hN.2.2.2 ex j h3⟩
  refine lv_astore hx hb ha hl hi rfl (fun ls' hl' => ?_)
  refine lv_bipush hx hb d2 hv ?_
  exact W.iret hx hb hret (fun t9 ht9 hW9 => ⟨⟨r, (), rfl, rfl, (ht9 ▸ hP1 : zPst h ad lay _ t9.heap)⟩, hS1.F ht9⟩) hS1.2.2 d3
/-- from a world without cells to the words of constructors, and back -/
theorem zC_n (C : zCT tb h ad ([] : List zK) nL G cc own Ts F L) : ∃ Cc Cs, G.2.2.1.cells = Cc ∧ G.2.2.1.slots = Cs ∧ zCc h nL G (fun q => G.2.2.2.1.heap.size ≤ q) cc own Ts F L Cc Cs := by
  obtain ⟨p, e, R, s, m, args, below, meth, c, Q, cells, slots⟩ := G
  obtain ⟨⟨hx, hb, hml, hown, hts⟩, hK, hI, hN, hZ, hlocks, hnt, hF, hL, hst9, hcs, hss⟩ := C
  exact ⟨_, _, rfl, rfl, ⟨hx, hb, hml, hown, hts⟩, hK, fun q hq => hq, hF, hL, rfl, rfl, hN, zHS_to hZ (fun _ _ _ => rfl) (fun q hq => Or.inr hq) (Vm.Alike.refl s.vm)⟩
theorem z_in {cells slots : Nat} (hG : G.2.2.2.2.2.2.2.2.2.2 = (cells, slots)) (k : zVc h nL G (fun q => G.2.2.2.1.heap.size ≤ q) (zAd []) ([] : List zK) σ cells slots pc lv st) : zV h ad ([] : List zK) nL G σ pc lv st := by
  obtain ⟨p, e, R, s, m, args, below, meth, c, Q, c9, s9⟩ := G
  cases hG
  intro H locs ls hP hS hl
  refine k (fun i j hi => absurd hi (Nat.not_lt_zero i)) (fun i hi => absurd hi (Nat.not_lt_zero i)) H locs ls (fun k q hq => by simp [zW] at hq) ⟨hS.1, fun q h1 h2 => hS.2.1 q h1 ?_, fun q hq => ?_⟩ hl
  · rintro (⟨k, hk, _⟩ | hq)
    · exact absurd hk (Nat.not_lt_zero k)
    · exact h2 hq
  · rcases hS.2.2 q hq with ⟨k, hk, _⟩ | h9
    · exact absurd hk (Nat.not_lt_zero k)
    · exact h9
theorem z_out {cells slots a b : Nat} {l : List Nat} (hG : G.2.2.2.2.2.2.2.2.2.2 = (cells, slots)) (k : zI (zAd l) lay.length → (∀ i, i < lay.length → G.2.2.2.1.heap.size ≤ zAd l i) → zV h (zAd l) lay nL (zGa G a b) σ pc lv st) : zVc h nL G (fun q => G.2.2.2.1.heap.size ≤ q) (zAd l) lay σ (cells + a) (slots + b) pc lv st := by
  obtain ⟨p, e, R, s, m, args, below, meth, c, Q, c9, s9⟩ := G
  cases hG
  intro hI hAi H locs ls hP hS hl
  exact k hI hAi H locs ls hP ⟨hS.1, fun q h1 h2 => hS.2.1 q h1 (Nat.not_le.mpr h1), fun q hq => Or.inr (hS.2.2 q hq)⟩ hl
/-- with the engine made, the frame knows its cells -/
theorem zC_e {a b : Nat} (C : zCT tb h ad0 ([] : List zK) nL G cc own Ts F L) (hI : zI ad lay.length) (hAi : ∀ i, i < lay.length → G.2.2.2.1.heap.size ≤ ad i) (hB : zBud G a) (hb : b ≤ 6 * a) : zCT tb h ad lay nL (zGa G a b) cc own Ts F L := by
  have C2 := zCT_a C hB hb
  obtain ⟨p, e, R, s, m, args, below, meth, c, Q, cells, slots⟩ := G
  obtain ⟨h0, hK, _, hN, hZ, hlocks, hnt, hF, hL, hst9, hcs, hss⟩ := C2
  refine ⟨h0, hK, hI, hN, zHS_to hZ (fun _ _ _ => rfl) ?_ (Vm.Alike.refl s.vm), hlocks, hnt, hF, hL, hst9, hcs, hss⟩
  rintro q (⟨k, hk, rfl⟩ | hq)
  · exact Or.inr (hAi k hk)
  · exact Or.inr hq
/-- the end of a method that made an engine of its own -/
def zQm (mc ms : Nat) (h : zH) (ad0 : Nat → Nat) (σ0 : zS) (ad : Nat → Nat) (G : zG) : Prop := match G with
  | (_, _, R, s, _, args, below, meth, _, Q, _, _) => Q = MQ below (zQc h ad0 ([] : List zK) false (zA ad0 ([] : List zK).length s.heap.size) 1 σ0) args s mc ms (zA ad0 ([] : List zK).length s.heap.size) ∧ meth.sig.returnType = some .boolean ∧ R.cells = mc ∧ R.slots = ms ∧ ∀ k, k < 27 → s.heap.size ≤ ad k
theorem zQm_a {mc ms a b : Nat} {ad0 : Nat → Nat} {σ0 : zS} (hQ : zQm mc ms h ad0 σ0 ad G) : zQm mc ms h ad0 σ0 ad (zGa G a b) := by
  obtain ⟨p, e, R, s, m, args, below, meth, c, Q, cells, slots⟩ := G
  exact hQ
theorem zQm_of {mc ms a b : Nat} {ad0 : Nat → Nat} {σ0 : zS} (hQ : zQf mc ms h ad0 ([] : List zK) 1 σ0 G) (hAi : ∀ k, k < 27 → G.2.2.2.1.heap.size ≤ ad k) : zQm mc ms h ad0 σ0 ad (zGa G a b) := by
  obtain ⟨p, e, R, s, m, args, below, meth, c, Q, cells, slots⟩ := G
  obtain ⟨h1, h2, h3, h4⟩ := hQ
  exact ⟨h1, h2, h3, h4, hAi⟩
theorem z_mret (C : zCT tb h ad zLX nL G cc own Ts F L) {mc ms : Nat} {ad0 : Nat → Nat} {σ0 : zS} (hQ : zQm mc ms h ad0 σ0 ad G) (hdg : decode cc pc = .ok (.ireturn, 1)) : zV h ad zLX nL G σ pc lv [.int 1] := by
  obtain ⟨p, e, R, s, m, args, below, meth, c, Q, cells, slots⟩ := G
  obtain ⟨⟨hx, hb, hml, hown, hts⟩, hK, hI, hN, hZ, hlocks, hnt, hF, hL, hst9, hcs, hss⟩ := C
  obtain ⟨rfl, hret, hr1, hr2, hnew⟩ := hQ
  intro H locs ls hP hS hl
  have hS' : va_S (zA ad0 ([] : List zK).length s.heap.size) s.heap H locs := by
    refine ⟨hS.1, fun q h1 h2 => hS.2.1 q h1 ?_, fun q hq => ?_⟩
    · rintro (⟨k, hk, rfl⟩ | hq)
      · exact absurd (hnew k hk) (Nat.not_le.mpr h1)
      · exact absurd hq (Nat.not_le.mpr h1)
    · rcases hS.2.2 q hq with ⟨k, hk, e9⟩ | h9
      · rw [e9]; exact Or.inr (hnew k hk)
      · exact Or.inr h9
  exact W.widen (k := mc) (n := ms) (by rw [← hr1]; exact hcs) (by rw [← hr2]; exact hss) (W.zret hx hb hret rfl (fun t ht hW => ⟨⟨1, (), rfl, rfl, (fun k q hq => by simp [zW] at hq : zPst h ad0 ([] : List zK) σ0 t.heap)⟩, hS'.F ht⟩) hS'.2.2 hdg)
end P24R
