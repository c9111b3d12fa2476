/-! a layer over the kit: a world of fixed layout; all its numbers are one function zS; its references never change -/
def zN : List (String × Nat × MethodName × String) := [("TaxEngine", 9, ⟨"TaxEngine$Sheet", "<init>", "()V"⟩, "TaxEngine"), ("TaxEngine", 18, ⟨"TaxEngine$Plan", "<init>", "()V"⟩, "TaxEngine"), ("TaxEngine", 25, ⟨"TaxEngine$Brackets", "<init>", "()V"⟩, "TaxEngine"), ("TaxEngine", 32, ⟨"TaxEngine$Amounts", "<init>", "()V"⟩, "TaxEngine"), ("TaxEngine", 39, ⟨"TaxEngine$Credits", "<init>", "()V"⟩, "TaxEngine"), ("TaxEngine", 58, ⟨"TaxEngine$Explanation", "<init>", "()V"⟩, "TaxEngine"), ("TaxEngine$Sheet", 28, ⟨"TaxEngine", "at", "([II)I"⟩, "TaxEngine"), ("TaxEngine$Sheet", 36, ⟨"TaxEngine", "takesFirst", "(I)Z"⟩, "TaxEngine"), ("TaxEngine$Sheet", 43, ⟨"TaxEngine", "bit", "(I)I"⟩, "TaxEngine"), ("TaxEngine$Sheet", 46, ⟨"TaxEngine", "takesSecond", "(I)Z"⟩, "TaxEngine"), ("TaxEngine$Plan", 73, ⟨"TaxEngine", "put", "([III)V"⟩, "TaxEngine"), ("TaxEngine$Plan", 55, ⟨"TaxEngine", "at", "([II)I"⟩, "TaxEngine"), ("TaxEngine$Plan", 61, ⟨"TaxEngine", "has", "(II)Z"⟩, "TaxEngine"), ("TaxEngine$Plan", 77, ⟨"TaxEngine", "bit", "(I)I"⟩, "TaxEngine"), ("TaxEngine$Amounts", 25, ⟨"TaxEngine", "at", "([II)I"⟩, "TaxEngine"), ("TaxEngine$Values", 35, ⟨"TaxEngine", "at", "([II)I"⟩, "TaxEngine"), ("TaxEngine$Values", 60, ⟨"TaxEngine", "put", "([III)V"⟩, "TaxEngine"), ("TaxEngine$Values", 95, ⟨"TaxEngine", "thousandths", "(II)I"⟩, "TaxEngine"), ("TaxEngine$Brackets", 30, ⟨"TaxEngine", "at", "([II)I"⟩, "TaxEngine"), ("TaxEngine$Brackets", 47, ⟨"TaxEngine", "thousandths", "(II)I"⟩, "TaxEngine"), ("TaxEngine$Amounts", 37, ⟨"TaxEngine", "put", "([III)V"⟩, "TaxEngine"), ("TaxEngine$Sheet", 24, ⟨"TaxEngine", "put", "([III)V"⟩, "TaxEngine"), ("TaxEngine$Explanation", 34, ⟨"TaxEngine", "has", "(II)Z"⟩, "TaxEngine"), ("TaxEngine$Explanation", 38, ⟨"TaxEngine", "put", "([III)V"⟩, "TaxEngine"), ("TaxEngine$Explanation", 42, ⟨"TaxEngine", "bit", "(I)I"⟩, "TaxEngine"), ("TaxEngine$Explanation", 26, ⟨"TaxEngine", "at", "([II)I"⟩, "TaxEngine"), ("TaxEngine$Brackets", 34, ⟨"TaxEngine", "put", "([III)V"⟩, "TaxEngine"), ("TaxEngine$Credits", 28, ⟨"TaxEngine", "put", "([III)V"⟩, "TaxEngine"), ("TaxEngine$Credits", 32, ⟨"TaxEngine", "at", "([II)I"⟩, "TaxEngine"), ("TaxEngine$Credits", 53, ⟨"TaxEngine", "thousandths", "(II)I"⟩, "TaxEngine")]
section ZL
/-- a cell: an array (0 of ints, 1 of booleans, 2 of longs that are ints) of a length; an object of a class, its fields: 0 a number, 1 null, r + 2 the cell r -/
abbrev zK : Type := (Nat × Nat) ⊕ (Nat × List Nat)
abbrev zS : Type := Nat → Nat → Int32
def zF (ad : Nat → Nat) (f : Nat → Int32) (j : Nat) (o : Nat) : Value := match o with
  | 0 => .int (f j)
  | 1 => .null
  | r + 2 => .ref (ad r)
def zE (cA : Nat → ClassId) (ad : Nat → Nat) (f : Nat → Int32) (kd : zK) : va_E := match kd with
  | .inl (2, n) => .inl (cA 2, n, .inr (.inl (fun j => (f j).toInt64)))
  | .inl (z, n) => .inl (cA z, n, .inl f)
  | .inr q => .inr (q.1, q.2.mapIdx (zF ad f))
def zW (cA : Nat → ClassId) (ad : Nat → Nat) (lay : List zK) (σ : zS) : va_W := lay.mapIdx (fun k kd => (ad k, zE cA ad (σ k) kd))
def zU (σ : zS) (k j : Nat) (v : Int32) : zS := fun i => if i = k then upd (σ i) j v else σ i
theorem zW_at {cA : Nat → ClassId} {ad : Nat → Nat} {lay : List zK} {σ : zS} {k : Nat} {kd : zK} (h : lay[k]? = some kd) : (zW cA ad lay σ)[k]? = some (ad k, zE cA ad (σ k) kd) := by
  simp [zW, List.getElem?_mapIdx, h]
theorem zW_key {cA : Nat → ClassId} {ad : Nat → Nat} {lay : List zK} {σ : zS} {k : Nat} {q : Nat × va_E} (h : (zW cA ad lay σ)[k]? = some q) : k < lay.length ∧ q.1 = ad k := by
  have hl := (List.getElem?_eq_some_iff.mp h).1
  have hk : k < lay.length := by simpa [zW] using hl
  have h2 := zW_at (cA := cA) (ad := ad) (σ := σ) (List.getElem?_eq_getElem hk)
  rw [h2] at h
  cases h
  exact ⟨hk, rfl⟩
theorem zW_set {cA : Nat → ClassId} {ad : Nat → Nat} {lay : List zK} {σ σ' : zS} {k : Nat} {kd : zK} {e : va_E} (h : lay[k]? = some kd) (he : e = zE cA ad (σ' k) kd) (ho : ∀ i, i ≠ k → σ' i = σ i) : (zW cA ad lay σ).set k (ad k, e) = zW cA ad lay σ' := by
  apply List.ext_getElem?
  intro i
  by_cases hi : i = k
  · subst hi
    have hl : i < (zW cA ad lay σ).length := (List.getElem?_eq_some_iff.mp (zW_at h)).1
    rw [List.getElem?_set_self hl, zW_at h, he]
  · rw [List.getElem?_set_ne (Ne.symm hi)]
    simp only [zW, List.getElem?_mapIdx, ho i hi]
theorem zU_o {σ : zS} {k j : Nat} {v : Int32} : ∀ i, i ≠ k → zU σ k j v i = σ i := fun i hi => by simp [zU, hi]
theorem zU_s {σ : zS} {k j : Nat} {v : Int32} : zU σ k j v k = upd (σ k) j v := by simp [zU]
theorem zF_set {ad : Nat → Nat} {f : Nat → Int32} {fs : List Nat} {j : Nat} {v : Int32} (hj : fs[j]? = some 0) : (fs.mapIdx (zF ad f)).set j (.int v) = fs.mapIdx (zF ad (upd f j v)) := by
  have hl : j < fs.length := (List.getElem?_eq_some_iff.mp hj).1
  apply List.ext_getElem?
  intro i
  by_cases hi : i = j
  · subst hi
    rw [List.getElem?_set_self (by simpa using hl)]
    simp [List.getElem?_mapIdx, hj, zF, upd]
  · rw [List.getElem?_set_ne (Ne.symm hi)]
    simp only [List.getElem?_mapIdx]
    cases hx : fs[i]? with
    | none => rfl
    | some o => rcases o with _ | _ | o <;> simp [zF, upd, hi]
def zT (cA : Nat → ClassId) : List (ClassId × FieldType) := [(cA 0, .int)]
def zA (ad : Nat → Nat) (n sz : Nat) : Nat → Prop := fun q => (∃ k, k < n ∧ q = ad k) ∨ sz ≤ q
def zI (ad : Nat → Nat) (n : Nat) : Prop := ∀ i j, i < n → j < n → ad i = ad j → i = j
theorem zD_of {cA : Nat → ClassId} {ad : Nat → Nat} {lay : List zK} (σ : zS) {sz : Nat} (hI : zI ad lay.length) : va_D (zA ad lay.length sz) (zW cA ad lay σ) := by
  refine ⟨fun i j p q hp hq hpq => ?_, fun k q hq => ?_⟩
  · obtain ⟨h1, h2⟩ := zW_key hp
    obtain ⟨h3, h4⟩ := zW_key hq
    exact hI i j h1 h3 (by rw [← h2, ← h4]; exact hpq)
  · obtain ⟨h1, h2⟩ := zW_key hq
    exact Or.inl ⟨k, h1, h2⟩
theorem zA_sub {ad : Nat → Nat} {n a b : Nat} (h : a ≤ b) : ∀ q, zA ad n b q → zA ad n a q := by
  intro q hq
  rcases hq with hq | hq
  · exact Or.inl hq
  · exact Or.inr (Nat.le_trans h hq)
def zEx (k : Nat) : String := if k = 1 then "java/lang/IndexOutOfBoundsException" else if k = 2 then "java/lang/IllegalArgumentException" else "java/lang/IllegalStateException"
def zDn : List MethodName := [⟨"java/lang/RuntimeException", "<init>", "()V"⟩, ⟨"java/lang/Exception", "<init>", "()V"⟩, ⟨"java/lang/Throwable", "<init>", "()V"⟩]
def zHN (U : State) : Prop := (∀ q ∈ zN, va_Nw (.methodLinkNest q.1 q.2.1 q.2.2.1 q.2.2.2) U) ∧ (∀ k : Nat, va_Nw (.castable (zEx k) (zEx k)) U) ∧ (∀ q ∈ zDn, va_Nw (.declares q) U) ∧ ∀ j k : Nat, zEx j ≠ zEx k → va_Nc (zEx j) (zEx k) U
theorem zHN_warm {s U : State} (hW : s.WarmedH U.vm) (h : zHN s) : zHN U := ⟨fun q hq => va_Nw.warmM hW (h.1 q hq), fun k => va_Nw.warmC hW (h.2.1 k), fun q hq => va_Nw.warmD hW (h.2.2.1 q hq), fun j k hjk => va_Nc.moved hW.alike (h.2.2.2 j k hjk)⟩
theorem zHN_calling {U : State} {g : JFrame} {mk : MethodId} {a : Array Value} (h : zHN U) : zHN (U.calling g mk a) := ⟨fun q hq => va_Nw.same (u := U) (U := U.calling g mk a) rfl rfl (h.1 q hq), fun k => va_Nw.same (u := U) (U := U.calling g mk a) rfl rfl (h.2.1 k), fun q hq => va_Nw.same (u := U) (U := U.calling g mk a) rfl rfl (h.2.2.1 q hq), fun j k hjk => va_Nc.moved (u := U) (U := U.calling g mk a) (Vm.Alike.refl U.vm) (h.2.2.2 j k hjk)⟩
def zBl (cls : String) : List Cond := Cond.castable cls cls :: zDn.map Cond.declares
theorem zBl_of {args : Array Value} {s : State} {cls : String} (h1 : va_Nw (.castable cls cls) s) (h2 : ∀ q ∈ zDn, va_Nw (.declares q) s) : ∀ w ∈ zBl cls, w.before args s = true := by
  intro w hw
  rcases List.mem_cons.mp hw with rfl | hw
  · exact va_Nw.use rfl h1
  · obtain ⟨q, hq, rfl⟩ := List.mem_map.mp hw
    exact va_Nw.use rfl (h2 q hq)
def zHS (A : Nat → Prop) (U : State) (H : Heap) : Prop := vx_Zq Bundle.tN "UNASSIGNED_STACK" Bundle.steD A U H ∧ vx_Zq Bundle.tN "SUPPRESSED_SENTINEL" Bundle.listD A U H
theorem zHS_to {A B : Nat → Prop} {s U : State} {H0 H : Heap} (h : zHS A s H0) (hk : ∀ q : Nat, q < H0.size → ¬ A q → H[q]? = H0[q]?) (hAB : ∀ q, B q → A q) (hvm : s.vm.Alike U.vm) : zHS B U H :=
  ⟨((h.1.kept hk).narrow hAB).moved hvm, ((h.2.kept hk).narrow hAB).moved hvm⟩
abbrev zH : Type := Launch × (Nat → ClassId) × (Nat → Nat → Nat) × (Nat → ClassId)
def zPst (h : zH) (ad : Nat → Nat) (lay : List zK) (σ : zS) (H : Heap) : Prop := va_P (h.2.1, h.2.2.1) vwCl (zW h.2.2.2 ad lay σ) H
def zPre (h : zH) (ad : Nat → Nat) (lay : List zK) (σ : zS) (argv : List Value) (sz : Nat) : Array Value → State → Prop := va_Pc argv (fun U => U.heap.size = sz ∧ zPst h ad lay σ U.heap ∧ va_K (h.2.1, h.2.2.1) vwCl (zT h.2.2.2) U ∧ zHN U ∧ zHS (zA ad lay.length sz) U U.heap)
theorem zPre_blind {h : zH} {ad : Nat → Nat} {lay : List zK} {σ : zS} {argv : List Value} {sz : Nat} : FrameBlind (zPre h ad lay σ argv sz) := fun a U g mk q => by
  obtain ⟨h0, h1, h2, h3, h4, h5⟩ := q
  exact ⟨h0, h1, h2, va_K.moved (u := U) (U := U.calling g mk a) (Vm.Alike.refl U.vm) h3, zHN_calling h4, h5.1.moved (Vm.Alike.refl U.vm), h5.2.moved (Vm.Alike.refl U.vm)⟩
theorem zPre_at {h : zH} {ad : Nat → Nat} {lay : List zK} {σ : zS} {argv : List Value} {s U : State} {H : Heap} {locs : List Loc} (hU : U.heap = H) (hW : s.WarmedH U.vm) (hP : zPst h ad lay σ H) (hK : va_K (h.2.1, h.2.2.1) vwCl (zT h.2.2.2) s) (hN : zHN s) (hZ : zHS (zA ad lay.length s.heap.size) s s.heap) (hS : va_S (zA ad lay.length s.heap.size) s.heap H locs) : zPre h ad lay σ argv H.size argv.toArray U := by
  subst hU
  exact ⟨rfl, rfl, hP, va_K.moved hW.alike hK, zHN_warm hW hN, zHS_to hZ hS.2.1 (zA_sub hS.1) hW.alike⟩
def zQc (h : zH) (ad : Nat → Nat) (lay : List zK) (vd : Bool) (A : Nat → Prop) (r : Int32) (σ : zS) : Array Value → State → Outcome → State → Prop := match vd with
  | true => va_Qv (fun _ : Unit => True) (fun _ t => zPst h ad lay σ t.heap) A
  | false => va_Qi (fun x (_ : Unit) => x = r) (fun _ t => zPst h ad lay σ t.heap) A
def zXC (h : zH) (ad : Nat → Nat) (lay : List zK) (A : Nat → Prop) (k : Nat) (σ : zS) : String → State → State → Prop := vx_X (fun _ : Unit => True) (fun E _ t => E = zEx k ∧ zPst h ad lay σ t.heap) A
def zNo (A : Nat → Prop) : Array Value → State → Outcome → State → Prop := va_Qv (fun _ : Unit => False) (fun _ _ => True) A
def zMR (h : zH) (ad : Nat → Nat) (lay : List zK) (vd : Bool) (y : MethodName) (ws : List Cond) (F L : Nat) (argv : List Value) (σ : zS) (res : Int32 ⊕ Nat) (σ' : zS) : Prop := match res with
  | .inl r => ∀ sz, Met h.1 y ws { frames := F, cells := 0, slots := 0, locals := L } (zPre h ad lay σ argv sz) (zQc h ad lay vd (zA ad lay.length sz) r σ') 0 0 (zA ad lay.length sz)
  | .inr k => ∀ sz, vx_Met h.1 y ws { frames := F, cells := 1, slots := 6, locals := L } (zPre h ad lay σ argv sz) (zNo (zA ad lay.length sz)) (zXC h ad lay (zA ad lay.length sz) k σ') 1 6 (zA ad lay.length sz)
abbrev zG : Type := Program × Env × Room × State × MethodId × Array Value × List Frame × Method × Code × (State → Prop) × Nat × Nat
def zQR (h : zH) (ad : Nat → Nat) (lay : List zK) (below : List Frame) (args : Array Value) (s : State) (vd : Bool) (res : Int32 ⊕ Nat) (σ' : zS) : State → Prop := match res with
  | .inl r => MQ below (zQc h ad lay vd (zA ad lay.length s.heap.size) r σ') args s 0 0 (zA ad lay.length s.heap.size)
  | .inr k => vx_MQ below (zNo (zA ad lay.length s.heap.size)) (zXC h ad lay (zA ad lay.length s.heap.size) k σ') args s 1 6 (zA ad lay.length s.heap.size)
def zQ (h : zH) (ad : Nat → Nat) (lay : List zK) (G : zG) (vd : Bool) (res : Int32 ⊕ Nat) (σ' : zS) (ret : Option FieldType) : Prop := match G with
  | (_, _, R, s, _, args, below, meth, _, Q, cells, slots) => Q = zQR h ad lay below args s vd res σ' ∧ meth.sig.returnType = ret ∧ (∀ k, res = .inr k → 1 ≤ R.cells ∧ 6 ≤ R.slots) ∧ cells = 0 ∧ slots = 0
def zCT (tb : List ExceptionTableEntry) (h : zH) (ad : Nat → Nat) (lay : List zK) (nL : Nat) (G : zG) (cc : ByteArray) (own : String) (Ts : List Cond) (F L : Nat) : Prop := match G with
  | (p, _, R, s, m, args, _, meth, c, _, cells, slots) => (p.tables.exec = Jvm.exec ∧ c.code = cc ∧ c.maxLocals = nL ∧ s.vm.findClass own = some m.cls ∧ (∀ w ∈ Ts, w.before args s = true)) ∧ va_K (h.2.1, h.2.2.1) vwCl (zT h.2.2.2) s ∧ zI ad lay.length ∧ zHN s ∧ zHS (zA ad lay.length s.heap.size) s s.heap ∧ meth.locks = false ∧ c.exceptionTable.toList = tb ∧ R.frames = F ∧ R.locals = L ∧ h.1.stackTraces = false ∧ cells ≤ R.cells ∧ slots ≤ R.slots
abbrev zC (h : zH) (ad : Nat → Nat) (lay : List zK) (nL : Nat) (G : zG) (cc : ByteArray) (own : String) (Ts : List Cond) (F L : Nat) : Prop := zCT [] h ad lay nL G cc own Ts F L
def zV (h : zH) (ad : Nat → Nat) (lay : List zK) (nL : Nat) (G : zG) (σ : zS) (pc : Nat) (lv : List (Nat × Value)) (st : List Value) : Prop := match G with
  | (p, e, R, s, m, args, below, meth, c, Q, cells, slots) => ∀ (H : Heap) (locs : List Loc) (ls : Array Slot), zPst h ad lay σ H → va_S (zA ad lay.length s.heap.size) s.heap H locs → lv_has ls nL lv → W p h.1 e R s m args below meth c H locs cells slots Q (F0 m pc ls st)
variable {tb : List ExceptionTableEntry} {h : zH} {ad : Nat → Nat} {lay : List zK} {nL : Nat} {G : zG} {cc : ByteArray} {own : String} {Ts : List Cond} {F L : Nat} {σ σ1 σ' : zS} {pc : Nat} {lv lv' : List (Nat × Value)} {st rest : List Value}
theorem z_start {vd : Bool} {y : MethodName} {ws ws' : List Cond} {ret : Option FieldType} {argv : List Value} {res : Int32 ⊕ Nat} (hy : plainName y.cls = true) (hw : ws = Cond.code y cc nL ret :: ws') (hown : y.cls = own) (hI : zI ad lay.length) (hst : h.1.stackTraces = false) (hlen : (lg_sl argv).length ≤ nL)
    (body : ∀ G, zC h ad lay nL G cc own ws F L → zQ h ad lay G vd res σ' ret → zV h ad lay nL G σ 0 (lv_args 0 argv) []) : zMR h ad lay vd y ws F L argv σ res σ' := by
  have tab : ∀ {p : Program} {rm : Room} {e : Env} {s : State} {m : MethodId} {args : Array Value} {below : List Frame} {meth : Method} {c : Code} {s₁ : State}, BodyLoose p h.1 y (headSpec ws rm) cc nL ret e s m args below meth c s₁ → c.exceptionTable.toList = [] := by
    intro p rm e s m args below meth c s₁ B
    obtain ⟨meth9, c9, h1, h2, -, -, -, -, h7, -⟩ := Cond.code_spec B.named (atoms_spec (ws := ws) B.pre _ (by rw [hw]; exact List.mem_cons_self))
    cases Option.some.inj (h1.symm.trans B.method)
    cases Option.some.inj (h2.symm.trans (Stand.of_body B).code)
    rw [Array.isEmpty_iff.mp h7]
  cases res with
  | inl r =>
    intro sz
    refine Met.ofW (cc := cc) (maxL := nL) (ret := ret) hy hw ?_
    intro p e s m args below meth c s₁ B hml hv
    obtain ⟨rfl, hsz, hP, hK, hN, hZ⟩ := hv
    subst hsz
    rw [lg_entry_eq]
    exact body (p, e, { frames := F, cells := 0, slots := 0, locals := L }, s, m, argv.toArray, below, meth, c, _, 0, 0) ⟨⟨B.exec, B.bytes, hml, by rw [← hown]; exact findClass_of_methodNamed B.named, atoms_spec (ws := ws) B.pre⟩, hK, hI, hN, hZ, B.notSynchronized, tab B, rfl, rfl, hst, Nat.zero_le _, Nat.zero_le _⟩ ⟨rfl, B.returns, fun k hk => (by cases hk), rfl, rfl⟩ s.heap [] _ hP va_S.rf (lv_entry argv hlen)
  | inr k =>
    intro sz
    refine vx_ofW (cc := cc) (maxL := nL) (ret := ret) hy hw ?_
    intro p e s m args below meth c s₁ B hml htb hv
    obtain ⟨rfl, hsz, hP, hK, hN, hZ⟩ := hv
    subst hsz
    rw [lg_entry_eq]
    exact body (p, e, { frames := F, cells := 1, slots := 6, locals := L }, s, m, argv.toArray, below, meth, c, _, 0, 0) ⟨⟨B.exec, B.bytes, hml, by rw [← hown]; exact findClass_of_methodNamed B.named, atoms_spec (ws := ws) B.pre⟩, hK, hI, hN, hZ, B.notSynchronized, tab B, rfl, rfl, hst, Nat.zero_le _, Nat.zero_le _⟩ ⟨rfl, B.returns, fun k hk => ⟨Nat.le_refl _, Nat.le_refl _⟩, rfl, rfl⟩ s.heap [] _ hP va_S.rf (lv_entry argv hlen)
theorem z_sub (ks : List Nat) (hl : lv_pick lv ks = lv') (k : zV h ad lay nL G σ pc lv' st) : zV h ad lay nL G σ pc lv st := by
  obtain ⟨p, e, R, s, m, args, below, meth, c, Q, cells, slots⟩ := G
  exact fun H locs ls hP hS hl9 => k H locs ls hP hS (lv_sub hl9 ks hl)

theorem z_iconst (C : zCT tb h ad lay nL G cc own Ts F L) {n : Int} {v : Int32} (hdg : decode cc pc = .ok (.iconst n, 1)) (hv : Int32.ofInt n = v)
    (k : zV h ad lay nL G σ (pc + 1) lv (.int v :: st)) : zV h ad lay nL G σ pc lv st := by
  obtain ⟨p, e, R, s, m, args, below, meth, c, Q, cells, slots⟩ := G
  obtain ⟨⟨hx, hb, hml, hown, hts⟩, hK, hI, hN, hZ, hlocks, hnt, hF, hL, hst, hcs, hss⟩ := C
  exact fun H locs ls hP hS hl => lv_iconst hx hb hdg hv (k H locs ls hP hS hl)
theorem z_bipush (C : zCT tb h ad lay nL G cc own Ts F L) {n : Int} {v : Int32} (hdg : decode cc pc = .ok (.bipush n, 2)) (hv : (Int8.ofInt n).toInt32 = v)
    (k : zV h ad lay nL G σ (pc + 2) lv (.int v :: st)) : zV h ad lay nL G σ pc lv st := by
  obtain ⟨p, e, R, s, m, args, below, meth, c, Q, cells, slots⟩ := G
  obtain ⟨⟨hx, hb, hml, hown, hts⟩, hK, hI, hN, hZ, hlocks, hnt, hF, hL, hst, hcs, hss⟩ := C
  exact fun H locs ls hP hS hl => lv_bipush hx hb hdg hv (k H locs ls hP hS hl)
theorem z_sipush (C : zCT tb h ad lay nL G cc own Ts F L) {n : Int} {v : Int32} (hdg : decode cc pc = .ok (.sipush n, 3)) (hv : (Int16.ofInt n).toInt32 = v)
    (k : zV h ad lay nL G σ (pc + 3) lv (.int v :: st)) : zV h ad lay nL G σ pc lv st := by
  obtain ⟨p, e, R, s, m, args, below, meth, c, Q, cells, slots⟩ := G
  obtain ⟨⟨hx, hb, hml, hown, hts⟩, hK, hI, hN, hZ, hlocks, hnt, hF, hL, hst, hcs, hss⟩ := C
  exact fun H locs ls hP hS hl => lv_sipush hx hb hdg hv (k H locs ls hP hS hl)
theorem z_lconst (C : zCT tb h ad lay nL G cc own Ts F L) {n : Fin 2} {v : Int64} (hdg : decode cc pc = .ok (.lconst n, 1)) (hv : Int64.ofNat (n : Nat) = v)
    (k : zV h ad lay nL G σ (pc + 1) lv (.long v :: st)) : zV h ad lay nL G σ pc lv st := by
  obtain ⟨p, e, R, s, m, args, below, meth, c, Q, cells, slots⟩ := G
  obtain ⟨⟨hx, hb, hml, hown, hts⟩, hK, hI, hN, hZ, hlocks, hnt, hF, hL, hst, hcs, hss⟩ := C
  exact fun H locs ls hP hS hl => lv_lconst hx hb hdg hv (k H locs ls hP hS hl)
theorem z_ldc (C : zCT tb h ad lay nL G cc own Ts F L) {i : Nat} {v : Int32} (hc : (Cond.constant own i v) ∈ Ts) (hdg : decode cc pc = .ok (.ldc i, 2))
    (k : zV h ad lay nL G σ (pc + 2) lv (.int v :: st)) : zV h ad lay nL G σ pc lv st := by
  obtain ⟨p, e, R, s, m, args, below, meth, c, Q, cells, slots⟩ := G
  obtain ⟨⟨hx, hb, hml, hown, hts⟩, hK, hI, hN, hZ, hlocks, hnt, hF, hL, hst, hcs, hss⟩ := C
  exact fun H locs ls hP hS hl => lv_ldc hx hb hown (hts _ hc) hdg (k H locs ls hP hS hl)
theorem z_ldcw (C : zCT tb h ad lay nL G cc own Ts F L) {i : Nat} {v : Int32} (hc : (Cond.constant own i v) ∈ Ts) (hdg : decode cc pc = .ok (.ldc_w i, 3))
    (k : zV h ad lay nL G σ (pc + 3) lv (.int v :: st)) : zV h ad lay nL G σ pc lv st := by
  obtain ⟨p, e, R, s, m, args, below, meth, c, Q, cells, slots⟩ := G
  obtain ⟨⟨hx, hb, hml, hown, hts⟩, hK, hI, hN, hZ, hlocks, hnt, hF, hL, hst, hcs, hss⟩ := C
  exact fun H locs ls hP hS hl => lv_ldcw hx hb hown (hts _ hc) hdg (k H locs ls hP hS hl)
theorem z_ldc2 (C : zCT tb h ad lay nL G cc own Ts F L) {i : Nat} {v : Int64} (hc : (Cond.constantLong own i v) ∈ Ts) (hdg : decode cc pc = .ok (.ldc2_w i, 3))
    (k : zV h ad lay nL G σ (pc + 3) lv (.long v :: st)) : zV h ad lay nL G σ pc lv st := by
  obtain ⟨p, e, R, s, m, args, below, meth, c, Q, cells, slots⟩ := G
  obtain ⟨⟨hx, hb, hml, hown, hts⟩, hK, hI, hN, hZ, hlocks, hnt, hF, hL, hst, hcs, hss⟩ := C
  exact fun H locs ls hP hS hl => lv_ldc2 hx hb hown (hts _ hc) hdg (k H locs ls hP hS hl)
theorem z_iload_n (C : zCT tb h ad lay nL G cc own Ts F L) {kk : Fin 4} {i : Nat} {x : Int32} (hdg : decode cc pc = .ok (.iload_n kk, 1)) (hi : (kk : Nat) = i) (j : Nat) (hj : lv[j]? = some (i, .int x))
    (k : zV h ad lay nL G σ (pc + 1) lv (.int x :: st)) : zV h ad lay nL G σ pc lv st := by
  obtain ⟨p, e, R, s, m, args, below, meth, c, Q, cells, slots⟩ := G
  obtain ⟨⟨hx, hb, hml, hown, hts⟩, hK, hI, hN, hZ, hlocks, hnt, hF, hL, hst, hcs, hss⟩ := C
  exact fun H locs ls hP hS hl => lv_iload_n hx hb hdg hi (lv_at hl j hj) (k H locs ls hP hS hl)
theorem z_iload (C : zCT tb h ad lay nL G cc own Ts F L) {i : Nat} {x : Int32} (hdg : decode cc pc = .ok (.iload i, 2)) (j : Nat) (hj : lv[j]? = some (i, .int x))
    (k : zV h ad lay nL G σ (pc + 2) lv (.int x :: st)) : zV h ad lay nL G σ pc lv st := by
  obtain ⟨p, e, R, s, m, args, below, meth, c, Q, cells, slots⟩ := G
  obtain ⟨⟨hx, hb, hml, hown, hts⟩, hK, hI, hN, hZ, hlocks, hnt, hF, hL, hst, hcs, hss⟩ := C
  exact fun H locs ls hP hS hl => lv_iload hx hb hdg (lv_at hl j hj) (k H locs ls hP hS hl)
theorem z_lload_n (C : zCT tb h ad lay nL G cc own Ts F L) {kk : Fin 4} {i : Nat} {x : Int64} (hdg : decode cc pc = .ok (.lload_n kk, 1)) (hi : (kk : Nat) = i) (j : Nat) (hj : lv[j]? = some (i, .long x))
    (k : zV h ad lay nL G σ (pc + 1) lv (.long x :: st)) : zV h ad lay nL G σ pc lv st := by
  obtain ⟨p, e, R, s, m, args, below, meth, c, Q, cells, slots⟩ := G
  obtain ⟨⟨hx, hb, hml, hown, hts⟩, hK, hI, hN, hZ, hlocks, hnt, hF, hL, hst, hcs, hss⟩ := C
  exact fun H locs ls hP hS hl => lv_lload_n hx hb hdg hi (lv_at hl j hj) (k H locs ls hP hS hl)
theorem z_lload (C : zCT tb h ad lay nL G cc own Ts F L) {i : Nat} {x : Int64} (hdg : decode cc pc = .ok (.lload i, 2)) (j : Nat) (hj : lv[j]? = some (i, .long x))
    (k : zV h ad lay nL G σ (pc + 2) lv (.long x :: st)) : zV h ad lay nL G σ pc lv st := by
  obtain ⟨p, e, R, s, m, args, below, meth, c, Q, cells, slots⟩ := G
  obtain ⟨⟨hx, hb, hml, hown, hts⟩, hK, hI, hN, hZ, hlocks, hnt, hF, hL, hst, hcs, hss⟩ := C
  exact fun H locs ls hP hS hl => lv_lload hx hb hdg (lv_at hl j hj) (k H locs ls hP hS hl)
theorem z_aload_n (C : zCT tb h ad lay nL G cc own Ts F L) {kk : Fin 4} {i : Nat} {x : Nat} (hdg : decode cc pc = .ok (.aload_n kk, 1)) (hi : (kk : Nat) = i) (j : Nat) (hj : lv[j]? = some (i, .ref x))
    (k : zV h ad lay nL G σ (pc + 1) lv (.ref x :: st)) : zV h ad lay nL G σ pc lv st := by
  obtain ⟨p, e, R, s, m, args, below, meth, c, Q, cells, slots⟩ := G
  obtain ⟨⟨hx, hb, hml, hown, hts⟩, hK, hI, hN, hZ, hlocks, hnt, hF, hL, hst, hcs, hss⟩ := C
  exact fun H locs ls hP hS hl => lv_aload_n hx hb hdg hi (lv_at hl j hj) (k H locs ls hP hS hl)
theorem z_aload (C : zCT tb h ad lay nL G cc own Ts F L) {i : Nat} {x : Nat} (hdg : decode cc pc = .ok (.aload i, 2)) (j : Nat) (hj : lv[j]? = some (i, .ref x))
    (k : zV h ad lay nL G σ (pc + 2) lv (.ref x :: st)) : zV h ad lay nL G σ pc lv st := by
  obtain ⟨p, e, R, s, m, args, below, meth, c, Q, cells, slots⟩ := G
  obtain ⟨⟨hx, hb, hml, hown, hts⟩, hK, hI, hN, hZ, hlocks, hnt, hF, hL, hst, hcs, hss⟩ := C
  exact fun H locs ls hP hS hl => lv_aload hx hb hdg (lv_at hl j hj) (k H locs ls hP hS hl)
theorem z_istore_n (C : zCT tb h ad lay nL G cc own Ts F L) {kk : Fin 4} {i : Nat} {x y : Int32} (hdg : decode cc pc = .ok (.istore_n kk, 1)) (hi : (kk : Nat) = i) (hn : i < nL) (hy : y = x) (hl9 : (i, Value.int y) :: lv.filter (fun q => !(q.1 == i) && !(q.1 + 1 == i && q.2.category == 2)) = lv')
    (k : zV h ad lay nL G σ (pc + 1) lv' st) : zV h ad lay nL G σ pc lv (.int x :: st) := by
  obtain ⟨p, e, R, s, m, args, below, meth, c, Q, cells, slots⟩ := G
  obtain ⟨⟨hx, hb, hml, hown, hts⟩, hK, hI, hN, hZ, hlocks, hnt, hF, hL, hst, hcs, hss⟩ := C
  subst hy
  exact fun H locs ls hP hS hl => lv_istore_n hx hb hdg hi hl hn hl9 (fun ls hl => k H locs ls hP hS hl)
theorem z_istore (C : zCT tb h ad lay nL G cc own Ts F L) {i : Nat} {x y : Int32} (hdg : decode cc pc = .ok (.istore i, 2)) (hn : i < nL) (hy : y = x) (hl9 : (i, Value.int y) :: lv.filter (fun q => !(q.1 == i) && !(q.1 + 1 == i && q.2.category == 2)) = lv')
    (k : zV h ad lay nL G σ (pc + 2) lv' st) : zV h ad lay nL G σ pc lv (.int x :: st) := by
  obtain ⟨p, e, R, s, m, args, below, meth, c, Q, cells, slots⟩ := G
  obtain ⟨⟨hx, hb, hml, hown, hts⟩, hK, hI, hN, hZ, hlocks, hnt, hF, hL, hst, hcs, hss⟩ := C
  subst hy
  exact fun H locs ls hP hS hl => lv_istore hx hb hdg hl hn hl9 (fun ls hl => k H locs ls hP hS hl)
theorem z_lstore_n (C : zCT tb h ad lay nL G cc own Ts F L) {kk : Fin 4} {i : Nat} {x y : Int64} (hdg : decode cc pc = .ok (.lstore_n kk, 1)) (hi : (kk : Nat) = i) (hn : i + 1 < nL) (hy : y = x) (hl9 : (i, Value.long y) :: lv.filter (fun q => !(q.1 == i) && (!(q.1 == i + 1) && !(q.1 + 1 == i && q.2.category == 2))) = lv')
    (k : zV h ad lay nL G σ (pc + 1) lv' st) : zV h ad lay nL G σ pc lv (.long x :: st) := by
  obtain ⟨p, e, R, s, m, args, below, meth, c, Q, cells, slots⟩ := G
  obtain ⟨⟨hx, hb, hml, hown, hts⟩, hK, hI, hN, hZ, hlocks, hnt, hF, hL, hst, hcs, hss⟩ := C
  subst hy
  exact fun H locs ls hP hS hl => lv_lstore_n hx hb hdg hi hl hn hl9 (fun ls hl => k H locs ls hP hS hl)
theorem z_lstore (C : zCT tb h ad lay nL G cc own Ts F L) {i : Nat} {x y : Int64} (hdg : decode cc pc = .ok (.lstore i, 2)) (hn : i + 1 < nL) (hy : y = x) (hl9 : (i, Value.long y) :: lv.filter (fun q => !(q.1 == i) && (!(q.1 == i + 1) && !(q.1 + 1 == i && q.2.category == 2))) = lv')
    (k : zV h ad lay nL G σ (pc + 2) lv' st) : zV h ad lay nL G σ pc lv (.long x :: st) := by
  obtain ⟨p, e, R, s, m, args, below, meth, c, Q, cells, slots⟩ := G
  obtain ⟨⟨hx, hb, hml, hown, hts⟩, hK, hI, hN, hZ, hlocks, hnt, hF, hL, hst, hcs, hss⟩ := C
  subst hy
  exact fun H locs ls hP hS hl => lv_lstore hx hb hdg hl hn hl9 (fun ls hl => k H locs ls hP hS hl)
theorem z_iinc (C : zCT tb h ad lay nL G cc own Ts F L) {i j : Nat} {n : Int} {x v d : Int32} (hdg : decode cc pc = .ok (.iinc i n, 3)) (hj : lv[j]? = some (i, .int x)) (hd : Int32.ofInt n = d) (hv : v = x + d) (hn : i < nL) (hl9 : (i, Value.int v) :: lv.filter (fun q => !(q.1 == i) && !(q.1 + 1 == i && q.2.category == 2)) = lv')
    (k : zV h ad lay nL G σ (pc + 3) lv' st) : zV h ad lay nL G σ pc lv st := by
  obtain ⟨p, e, R, s, m, args, below, meth, c, Q, cells, slots⟩ := G
  obtain ⟨⟨hx, hb, hml, hown, hts⟩, hK, hI, hN, hZ, hlocks, hnt, hF, hL, hst, hcs, hss⟩ := C
  exact fun H locs ls hP hS hl => lv_iinc hx hb hdg hl hj (by rw [hd, hv]) hn hl9 (fun ls hl => k H locs ls hP hS hl)
theorem z_iadd (C : zCT tb h ad lay nL G cc own Ts F L) {x y : Int32} (hdg : decode cc pc = .ok (.iadd, 1))
    (k : zV h ad lay nL G σ (pc + 1) lv (.int (x + y) :: st)) : zV h ad lay nL G σ pc lv (.int y :: .int x :: st) := by
  obtain ⟨p, e, R, s, m, args, below, meth, c, Q, cells, slots⟩ := G
  obtain ⟨⟨hx, hb, hml, hown, hts⟩, hK, hI, hN, hZ, hlocks, hnt, hF, hL, hst, hcs, hss⟩ := C
  exact fun H locs ls hP hS hl => lv_iadd hx hb hdg (k H locs ls hP hS hl)
theorem z_isub (C : zCT tb h ad lay nL G cc own Ts F L) {x y : Int32} (hdg : decode cc pc = .ok (.isub, 1))
    (k : zV h ad lay nL G σ (pc + 1) lv (.int (x - y) :: st)) : zV h ad lay nL G σ pc lv (.int y :: .int x :: st) := by
  obtain ⟨p, e, R, s, m, args, below, meth, c, Q, cells, slots⟩ := G
  obtain ⟨⟨hx, hb, hml, hown, hts⟩, hK, hI, hN, hZ, hlocks, hnt, hF, hL, hst, hcs, hss⟩ := C
  exact fun H locs ls hP hS hl => lv_isub hx hb hdg (k H locs ls hP hS hl)
theorem z_imul (C : zCT tb h ad lay nL G cc own Ts F L) {x y : Int32} (hdg : decode cc pc = .ok (.imul, 1))
    (k : zV h ad lay nL G σ (pc + 1) lv (.int (x * y) :: st)) : zV h ad lay nL G σ pc lv (.int y :: .int x :: st) := by
  obtain ⟨p, e, R, s, m, args, below, meth, c, Q, cells, slots⟩ := G
  obtain ⟨⟨hx, hb, hml, hown, hts⟩, hK, hI, hN, hZ, hlocks, hnt, hF, hL, hst, hcs, hss⟩ := C
  exact fun H locs ls hP hS hl => lv_imul hx hb hdg (k H locs ls hP hS hl)
theorem z_iand (C : zCT tb h ad lay nL G cc own Ts F L) {x y : Int32} (hdg : decode cc pc = .ok (.iand, 1))
    (k : zV h ad lay nL G σ (pc + 1) lv (.int (x &&& y) :: st)) : zV h ad lay nL G σ pc lv (.int y :: .int x :: st) := by
  obtain ⟨p, e, R, s, m, args, below, meth, c, Q, cells, slots⟩ := G
  obtain ⟨⟨hx, hb, hml, hown, hts⟩, hK, hI, hN, hZ, hlocks, hnt, hF, hL, hst, hcs, hss⟩ := C
  exact fun H locs ls hP hS hl => lv_iand hx hb hdg (k H locs ls hP hS hl)
theorem z_ior (C : zCT tb h ad lay nL G cc own Ts F L) {x y : Int32} (hdg : decode cc pc = .ok (.ior, 1))
    (k : zV h ad lay nL G σ (pc + 1) lv (.int (x ||| y) :: st)) : zV h ad lay nL G σ pc lv (.int y :: .int x :: st) := by
  obtain ⟨p, e, R, s, m, args, below, meth, c, Q, cells, slots⟩ := G
  obtain ⟨⟨hx, hb, hml, hown, hts⟩, hK, hI, hN, hZ, hlocks, hnt, hF, hL, hst, hcs, hss⟩ := C
  exact fun H locs ls hP hS hl => lv_ior hx hb hdg (k H locs ls hP hS hl)
theorem z_ixor (C : zCT tb h ad lay nL G cc own Ts F L) {x y : Int32} (hdg : decode cc pc = .ok (.ixor, 1))
    (k : zV h ad lay nL G σ (pc + 1) lv (.int (x ^^^ y) :: st)) : zV h ad lay nL G σ pc lv (.int y :: .int x :: st) := by
  obtain ⟨p, e, R, s, m, args, below, meth, c, Q, cells, slots⟩ := G
  obtain ⟨⟨hx, hb, hml, hown, hts⟩, hK, hI, hN, hZ, hlocks, hnt, hF, hL, hst, hcs, hss⟩ := C
  exact fun H locs ls hP hS hl => lv_ixor hx hb hdg (k H locs ls hP hS hl)
theorem z_ishl (C : zCT tb h ad lay nL G cc own Ts F L) {x y : Int32} (hdg : decode cc pc = .ok (.ishl, 1))
    (k : zV h ad lay nL G σ (pc + 1) lv (.int (x <<< (y &&& 31)) :: st)) : zV h ad lay nL G σ pc lv (.int y :: .int x :: st) := by
  obtain ⟨p, e, R, s, m, args, below, meth, c, Q, cells, slots⟩ := G
  obtain ⟨⟨hx, hb, hml, hown, hts⟩, hK, hI, hN, hZ, hlocks, hnt, hF, hL, hst, hcs, hss⟩ := C
  exact fun H locs ls hP hS hl => lv_ishl hx hb hdg (k H locs ls hP hS hl)
theorem z_ishr (C : zCT tb h ad lay nL G cc own Ts F L) {x y : Int32} (hdg : decode cc pc = .ok (.ishr, 1))
    (k : zV h ad lay nL G σ (pc + 1) lv (.int (x >>> (y &&& 31)) :: st)) : zV h ad lay nL G σ pc lv (.int y :: .int x :: st) := by
  obtain ⟨p, e, R, s, m, args, below, meth, c, Q, cells, slots⟩ := G
  obtain ⟨⟨hx, hb, hml, hown, hts⟩, hK, hI, hN, hZ, hlocks, hnt, hF, hL, hst, hcs, hss⟩ := C
  exact fun H locs ls hP hS hl => lv_ishr hx hb hdg (k H locs ls hP hS hl)
theorem z_idiv (C : zCT tb h ad lay nL G cc own Ts F L) {x y : Int32} (hdg : decode cc pc = .ok (.idiv, 1)) (hne : ¬ y = 0)
    (k : zV h ad lay nL G σ (pc + 1) lv (.int (x / y) :: st)) : zV h ad lay nL G σ pc lv (.int y :: .int x :: st) := by
  obtain ⟨p, e, R, s, m, args, below, meth, c, Q, cells, slots⟩ := G
  obtain ⟨⟨hx, hb, hml, hown, hts⟩, hK, hI, hN, hZ, hlocks, hnt, hF, hL, hst, hcs, hss⟩ := C
  exact fun H locs ls hP hS hl => lv_idiv hx hb hdg hne (k H locs ls hP hS hl)
theorem z_irem (C : zCT tb h ad lay nL G cc own Ts F L) {x y : Int32} (hdg : decode cc pc = .ok (.irem, 1)) (hne : ¬ y = 0)
    (k : zV h ad lay nL G σ (pc + 1) lv (.int (x - x / y * y) :: st)) : zV h ad lay nL G σ pc lv (.int y :: .int x :: st) := by
  obtain ⟨p, e, R, s, m, args, below, meth, c, Q, cells, slots⟩ := G
  obtain ⟨⟨hx, hb, hml, hown, hts⟩, hK, hI, hN, hZ, hlocks, hnt, hF, hL, hst, hcs, hss⟩ := C
  exact fun H locs ls hP hS hl => lv_irem hx hb hdg hne (k H locs ls hP hS hl)
theorem z_iushr (C : zCT tb h ad lay nL G cc own Ts F L) {x y : Int32} (hdg : decode cc pc = .ok (.iushr, 1))
    (k : zV h ad lay nL G σ (pc + 1) lv (.int ((x.toUInt32 >>> (y.toUInt32 &&& Int32.toUInt32 31)).toInt32) :: st)) : zV h ad lay nL G σ pc lv (.int y :: .int x :: st) := by
  obtain ⟨p, e, R, s, m, args, below, meth, c, Q, cells, slots⟩ := G
  obtain ⟨⟨hx, hb, hml, hown, hts⟩, hK, hI, hN, hZ, hlocks, hnt, hF, hL, hst, hcs, hss⟩ := C
  exact fun H locs ls hP hS hl => lv_iushr hx hb hdg rfl (k H locs ls hP hS hl)
theorem z_lmul (C : zCT tb h ad lay nL G cc own Ts F L) {x y : Int64} (hdg : decode cc pc = .ok (.lmul, 1))
    (k : zV h ad lay nL G σ (pc + 1) lv (.long (x * y) :: st)) : zV h ad lay nL G σ pc lv (.long y :: .long x :: st) := by
  obtain ⟨p, e, R, s, m, args, below, meth, c, Q, cells, slots⟩ := G
  obtain ⟨⟨hx, hb, hml, hown, hts⟩, hK, hI, hN, hZ, hlocks, hnt, hF, hL, hst, hcs, hss⟩ := C
  exact fun H locs ls hP hS hl => lv_lmul hx hb hdg (k H locs ls hP hS hl)
theorem z_ladd (C : zCT tb h ad lay nL G cc own Ts F L) {x y : Int64} (hdg : decode cc pc = .ok (.ladd, 1))
    (k : zV h ad lay nL G σ (pc + 1) lv (.long (x + y) :: st)) : zV h ad lay nL G σ pc lv (.long y :: .long x :: st) := by
  obtain ⟨p, e, R, s, m, args, below, meth, c, Q, cells, slots⟩ := G
  obtain ⟨⟨hx, hb, hml, hown, hts⟩, hK, hI, hN, hZ, hlocks, hnt, hF, hL, hst, hcs, hss⟩ := C
  exact fun H locs ls hP hS hl => lv_ladd hx hb hdg (k H locs ls hP hS hl)
theorem z_lsub (C : zCT tb h ad lay nL G cc own Ts F L) {x y : Int64} (hdg : decode cc pc = .ok (.lsub, 1))
    (k : zV h ad lay nL G σ (pc + 1) lv (.long (x - y) :: st)) : zV h ad lay nL G σ pc lv (.long y :: .long x :: st) := by
  obtain ⟨p, e, R, s, m, args, below, meth, c, Q, cells, slots⟩ := G
  obtain ⟨⟨hx, hb, hml, hown, hts⟩, hK, hI, hN, hZ, hlocks, hnt, hF, hL, hst, hcs, hss⟩ := C
  exact fun H locs ls hP hS hl => lv_lsub hx hb hdg (k H locs ls hP hS hl)
theorem z_ldiv (C : zCT tb h ad lay nL G cc own Ts F L) {x y : Int64} (hdg : decode cc pc = .ok (.ldiv, 1)) (hne : ¬ y = 0)
    (k : zV h ad lay nL G σ (pc + 1) lv (.long (x / y) :: st)) : zV h ad lay nL G σ pc lv (.long y :: .long x :: st) := by
  obtain ⟨p, e, R, s, m, args, below, meth, c, Q, cells, slots⟩ := G
  obtain ⟨⟨hx, hb, hml, hown, hts⟩, hK, hI, hN, hZ, hlocks, hnt, hF, hL, hst, hcs, hss⟩ := C
  exact fun H locs ls hP hS hl => lv_ldiv hx hb hdg hne (k H locs ls hP hS hl)
theorem z_i2l (C : zCT tb h ad lay nL G cc own Ts F L) {x : Int32} (hdg : decode cc pc = .ok (.i2l, 1))
    (k : zV h ad lay nL G σ (pc + 1) lv (.long x.toInt64 :: st)) : zV h ad lay nL G σ pc lv (.int x :: st) := by
  obtain ⟨p, e, R, s, m, args, below, meth, c, Q, cells, slots⟩ := G
  obtain ⟨⟨hx, hb, hml, hown, hts⟩, hK, hI, hN, hZ, hlocks, hnt, hF, hL, hst, hcs, hss⟩ := C
  exact fun H locs ls hP hS hl => lv_i2l hx hb hdg rfl (k H locs ls hP hS hl)
theorem z_l2i (C : zCT tb h ad lay nL G cc own Ts F L) {x : Int64} (hdg : decode cc pc = .ok (.l2i, 1))
    (k : zV h ad lay nL G σ (pc + 1) lv (.int x.toInt32 :: st)) : zV h ad lay nL G σ pc lv (.long x :: st) := by
  obtain ⟨p, e, R, s, m, args, below, meth, c, Q, cells, slots⟩ := G
  obtain ⟨⟨hx, hb, hml, hown, hts⟩, hK, hI, hN, hZ, hlocks, hnt, hF, hL, hst, hcs, hss⟩ := C
  exact fun H locs ls hP hS hl => lv_l2i hx hb hdg rfl (k H locs ls hP hS hl)
theorem z_dup (C : zCT tb h ad lay nL G cc own Ts F L) {v : Value} (hdg : decode cc pc = .ok (.dup, 1)) (hv : v.category = 1)
    (k : zV h ad lay nL G σ (pc + 1) lv (v :: v :: st)) : zV h ad lay nL G σ pc lv (v :: st) := by
  obtain ⟨p, e, R, s, m, args, below, meth, c, Q, cells, slots⟩ := G
  obtain ⟨⟨hx, hb, hml, hown, hts⟩, hK, hI, hN, hZ, hlocks, hnt, hF, hL, hst, hcs, hss⟩ := C
  exact fun H locs ls hP hS hl => lv_dup hx hb hdg hv (k H locs ls hP hS hl)
theorem z_pop (C : zCT tb h ad lay nL G cc own Ts F L) {v : Value} (hdg : decode cc pc = .ok (.pop, 1)) (hv : v.category = 1)
    (k : zV h ad lay nL G σ (pc + 1) lv st) : zV h ad lay nL G σ pc lv (v :: st) := by
  obtain ⟨p, e, R, s, m, args, below, meth, c, Q, cells, slots⟩ := G
  obtain ⟨⟨hx, hb, hml, hown, hts⟩, hK, hI, hN, hZ, hlocks, hnt, hF, hL, hst, hcs, hss⟩ := C
  exact fun H locs ls hP hS hl => lv_pop hx hb hdg hv (k H locs ls hP hS hl)
theorem z_dup2 (C : zCT tb h ad lay nL G cc own Ts F L) {v u : Value} (hdg : decode cc pc = .ok (.dup2, 1)) (hv : v.category = 1) (hu : u.category = 1)
    (k : zV h ad lay nL G σ (pc + 1) lv (v :: u :: v :: u :: st)) : zV h ad lay nL G σ pc lv (v :: u :: st) := by
  obtain ⟨p, e, R, s, m, args, below, meth, c, Q, cells, slots⟩ := G
  obtain ⟨⟨hx, hb, hml, hown, hts⟩, hK, hI, hN, hZ, hlocks, hnt, hF, hL, hst, hcs, hss⟩ := C
  exact fun H locs ls hP hS hl => lv_dup2_11 hx hb hdg hv hu (k H locs ls hP hS hl)
theorem z_if_eq (C : zCT tb h ad lay nL G cc own Ts F L) {x : Int32} {off : Int} {tgt : Nat} (hdg : decode cc pc = .ok (.ifCond .eq off, 3)) (ht : (pc : Int) + off = (tgt : Int))
    (kt : x = 0 → zV h ad lay nL G σ tgt lv st) (kf : ¬ x = 0 → zV h ad lay nL G σ (pc + 3) lv st) : zV h ad lay nL G σ pc lv (.int x :: st) := by
  obtain ⟨p, e, R, s, m, args, below, meth, c, Q, cells, slots⟩ := G
  obtain ⟨⟨hx, hb, hml, hown, hts⟩, hK, hI, hN, hZ, hlocks, hnt, hF, hL, hst, hcs, hss⟩ := C
  exact fun H locs ls hP hS hl => lv_if_eq hx hb hdg ht (fun q => kt q H locs ls hP hS hl) (fun q => kf q H locs ls hP hS hl)
theorem z_icmp_eq (C : zCT tb h ad lay nL G cc own Ts F L) {x y : Int32} {off : Int} {tgt : Nat} (hdg : decode cc pc = .ok (.if_icmp .eq off, 3)) (ht : (pc : Int) + off = (tgt : Int))
    (kt : x = y → zV h ad lay nL G σ tgt lv st) (kf : ¬ x = y → zV h ad lay nL G σ (pc + 3) lv st) : zV h ad lay nL G σ pc lv (.int y :: .int x :: st) := by
  obtain ⟨p, e, R, s, m, args, below, meth, c, Q, cells, slots⟩ := G
  obtain ⟨⟨hx, hb, hml, hown, hts⟩, hK, hI, hN, hZ, hlocks, hnt, hF, hL, hst, hcs, hss⟩ := C
  exact fun H locs ls hP hS hl => lv_icmp_eq hx hb hdg ht (fun q => kt q H locs ls hP hS hl) (fun q => kf q H locs ls hP hS hl)
theorem z_if_ne (C : zCT tb h ad lay nL G cc own Ts F L) {x : Int32} {off : Int} {tgt : Nat} (hdg : decode cc pc = .ok (.ifCond .ne off, 3)) (ht : (pc : Int) + off = (tgt : Int))
    (kt : ¬ x = 0 → zV h ad lay nL G σ tgt lv st) (kf : x = 0 → zV h ad lay nL G σ (pc + 3) lv st) : zV h ad lay nL G σ pc lv (.int x :: st) := by
  obtain ⟨p, e, R, s, m, args, below, meth, c, Q, cells, slots⟩ := G
  obtain ⟨⟨hx, hb, hml, hown, hts⟩, hK, hI, hN, hZ, hlocks, hnt, hF, hL, hst, hcs, hss⟩ := C
  exact fun H locs ls hP hS hl => lv_if_ne hx hb hdg ht (fun q => kt q H locs ls hP hS hl) (fun q => kf q H locs ls hP hS hl)
theorem z_icmp_ne (C : zCT tb h ad lay nL G cc own Ts F L) {x y : Int32} {off : Int} {tgt : Nat} (hdg : decode cc pc = .ok (.if_icmp .ne off, 3)) (ht : (pc : Int) + off = (tgt : Int))
    (kt : ¬ x = y → zV h ad lay nL G σ tgt lv st) (kf : x = y → zV h ad lay nL G σ (pc + 3) lv st) : zV h ad lay nL G σ pc lv (.int y :: .int x :: st) := by
  obtain ⟨p, e, R, s, m, args, below, meth, c, Q, cells, slots⟩ := G
  obtain ⟨⟨hx, hb, hml, hown, hts⟩, hK, hI, hN, hZ, hlocks, hnt, hF, hL, hst, hcs, hss⟩ := C
  exact fun H locs ls hP hS hl => lv_icmp_ne hx hb hdg ht (fun q => kt q H locs ls hP hS hl) (fun q => kf q H locs ls hP hS hl)
theorem z_if_lt (C : zCT tb h ad lay nL G cc own Ts F L) {x : Int32} {off : Int} {tgt : Nat} (hdg : decode cc pc = .ok (.ifCond .lt off, 3)) (ht : (pc : Int) + off = (tgt : Int))
    (kt : x < 0 → zV h ad lay nL G σ tgt lv st) (kf : ¬ x < 0 → zV h ad lay nL G σ (pc + 3) lv st) : zV h ad lay nL G σ pc lv (.int x :: st) := by
  obtain ⟨p, e, R, s, m, args, below, meth, c, Q, cells, slots⟩ := G
  obtain ⟨⟨hx, hb, hml, hown, hts⟩, hK, hI, hN, hZ, hlocks, hnt, hF, hL, hst, hcs, hss⟩ := C
  exact fun H locs ls hP hS hl => lv_if_lt hx hb hdg ht (fun q => kt q H locs ls hP hS hl) (fun q => kf q H locs ls hP hS hl)
theorem z_icmp_lt (C : zCT tb h ad lay nL G cc own Ts F L) {x y : Int32} {off : Int} {tgt : Nat} (hdg : decode cc pc = .ok (.if_icmp .lt off, 3)) (ht : (pc : Int) + off = (tgt : Int))
    (kt : x < y → zV h ad lay nL G σ tgt lv st) (kf : ¬ x < y → zV h ad lay nL G σ (pc + 3) lv st) : zV h ad lay nL G σ pc lv (.int y :: .int x :: st) := by
  obtain ⟨p, e, R, s, m, args, below, meth, c, Q, cells, slots⟩ := G
  obtain ⟨⟨hx, hb, hml, hown, hts⟩, hK, hI, hN, hZ, hlocks, hnt, hF, hL, hst, hcs, hss⟩ := C
  exact fun H locs ls hP hS hl => lv_icmp_lt hx hb hdg ht (fun q => kt q H locs ls hP hS hl) (fun q => kf q H locs ls hP hS hl)
theorem z_if_ge (C : zCT tb h ad lay nL G cc own Ts F L) {x : Int32} {off : Int} {tgt : Nat} (hdg : decode cc pc = .ok (.ifCond .ge off, 3)) (ht : (pc : Int) + off = (tgt : Int))
    (kt : 0 ≤ x → zV h ad lay nL G σ tgt lv st) (kf : ¬ 0 ≤ x → zV h ad lay nL G σ (pc + 3) lv st) : zV h ad lay nL G σ pc lv (.int x :: st) := by
  obtain ⟨p, e, R, s, m, args, below, meth, c, Q, cells, slots⟩ := G
  obtain ⟨⟨hx, hb, hml, hown, hts⟩, hK, hI, hN, hZ, hlocks, hnt, hF, hL, hst, hcs, hss⟩ := C
  exact fun H locs ls hP hS hl => lv_if_ge hx hb hdg ht (fun q => kt q H locs ls hP hS hl) (fun q => kf q H locs ls hP hS hl)
theorem z_icmp_ge (C : zCT tb h ad lay nL G cc own Ts F L) {x y : Int32} {off : Int} {tgt : Nat} (hdg : decode cc pc = .ok (.if_icmp .ge off, 3)) (ht : (pc : Int) + off = (tgt : Int))
    (kt : y ≤ x → zV h ad lay nL G σ tgt lv st) (kf : ¬ y ≤ x → zV h ad lay nL G σ (pc + 3) lv st) : zV h ad lay nL G σ pc lv (.int y :: .int x :: st) := by
  obtain ⟨p, e, R, s, m, args, below, meth, c, Q, cells, slots⟩ := G
  obtain ⟨⟨hx, hb, hml, hown, hts⟩, hK, hI, hN, hZ, hlocks, hnt, hF, hL, hst, hcs, hss⟩ := C
  exact fun H locs ls hP hS hl => lv_icmp_ge hx hb hdg ht (fun q => kt q H locs ls hP hS hl) (fun q => kf q H locs ls hP hS hl)
theorem z_if_gt (C : zCT tb h ad lay nL G cc own Ts F L) {x : Int32} {off : Int} {tgt : Nat} (hdg : decode cc pc = .ok (.ifCond .gt off, 3)) (ht : (pc : Int) + off = (tgt : Int))
    (kt : 0 < x → zV h ad lay nL G σ tgt lv st) (kf : ¬ 0 < x → zV h ad lay nL G σ (pc + 3) lv st) : zV h ad lay nL G σ pc lv (.int x :: st) := by
  obtain ⟨p, e, R, s, m, args, below, meth, c, Q, cells, slots⟩ := G
  obtain ⟨⟨hx, hb, hml, hown, hts⟩, hK, hI, hN, hZ, hlocks, hnt, hF, hL, hst, hcs, hss⟩ := C
  exact fun H locs ls hP hS hl => lv_if_gt hx hb hdg ht (fun q => kt q H locs ls hP hS hl) (fun q => kf q H locs ls hP hS hl)
theorem z_icmp_gt (C : zCT tb h ad lay nL G cc own Ts F L) {x y : Int32} {off : Int} {tgt : Nat} (hdg : decode cc pc = .ok (.if_icmp .gt off, 3)) (ht : (pc : Int) + off = (tgt : Int))
    (kt : y < x → zV h ad lay nL G σ tgt lv st) (kf : ¬ y < x → zV h ad lay nL G σ (pc + 3) lv st) : zV h ad lay nL G σ pc lv (.int y :: .int x :: st) := by
  obtain ⟨p, e, R, s, m, args, below, meth, c, Q, cells, slots⟩ := G
  obtain ⟨⟨hx, hb, hml, hown, hts⟩, hK, hI, hN, hZ, hlocks, hnt, hF, hL, hst, hcs, hss⟩ := C
  exact fun H locs ls hP hS hl => lv_icmp_gt hx hb hdg ht (fun q => kt q H locs ls hP hS hl) (fun q => kf q H locs ls hP hS hl)
theorem z_if_le (C : zCT tb h ad lay nL G cc own Ts F L) {x : Int32} {off : Int} {tgt : Nat} (hdg : decode cc pc = .ok (.ifCond .le off, 3)) (ht : (pc : Int) + off = (tgt : Int))
    (kt : x ≤ 0 → zV h ad lay nL G σ tgt lv st) (kf : ¬ x ≤ 0 → zV h ad lay nL G σ (pc + 3) lv st) : zV h ad lay nL G σ pc lv (.int x :: st) := by
  obtain ⟨p, e, R, s, m, args, below, meth, c, Q, cells, slots⟩ := G
  obtain ⟨⟨hx, hb, hml, hown, hts⟩, hK, hI, hN, hZ, hlocks, hnt, hF, hL, hst, hcs, hss⟩ := C
  exact fun H locs ls hP hS hl => lv_if_le hx hb hdg ht (fun q => kt q H locs ls hP hS hl) (fun q => kf q H locs ls hP hS hl)
theorem z_icmp_le (C : zCT tb h ad lay nL G cc own Ts F L) {x y : Int32} {off : Int} {tgt : Nat} (hdg : decode cc pc = .ok (.if_icmp .le off, 3)) (ht : (pc : Int) + off = (tgt : Int))
    (kt : x ≤ y → zV h ad lay nL G σ tgt lv st) (kf : ¬ x ≤ y → zV h ad lay nL G σ (pc + 3) lv st) : zV h ad lay nL G σ pc lv (.int y :: .int x :: st) := by
  obtain ⟨p, e, R, s, m, args, below, meth, c, Q, cells, slots⟩ := G
  obtain ⟨⟨hx, hb, hml, hown, hts⟩, hK, hI, hN, hZ, hlocks, hnt, hF, hL, hst, hcs, hss⟩ := C
  exact fun H locs ls hP hS hl => lv_icmp_le hx hb hdg ht (fun q => kt q H locs ls hP hS hl) (fun q => kf q H locs ls hP hS hl)
theorem z_goto (C : zCT tb h ad lay nL G cc own Ts F L) {off : Int} {tgt : Nat} (hdg : decode cc pc = .ok (.goto off, 3)) (ht : (pc : Int) + off = (tgt : Int))
    (k : zV h ad lay nL G σ tgt lv st) : zV h ad lay nL G σ pc lv st := by
  obtain ⟨p, e, R, s, m, args, below, meth, c, Q, cells, slots⟩ := G
  obtain ⟨⟨hx, hb, hml, hown, hts⟩, hK, hI, hN, hZ, hlocks, hnt, hF, hL, hst, hcs, hss⟩ := C
  exact fun H locs ls hP hS hl => lv_goto hx hb hdg ht (k H locs ls hP hS hl)
theorem z_tableIn (C : zCT tb h ad lay nL G cc own Ts F L) {dflt lo hi : Int} {offs : Array Int} {len : Nat} {x : Int32} {off : Int} {tgt : Nat} (hdg : decode cc pc = .ok (.tableswitch dflt lo hi offs, len)) (h1 : ¬ x.toInt < lo) (h2 : ¬ hi < x.toInt) (ho : offs[(x.toInt - lo).toNat]? = some off) (ht : (pc : Int) + off = (tgt : Int))
    (k : zV h ad lay nL G σ tgt lv st) : zV h ad lay nL G σ pc lv (.int x :: st) := by
  obtain ⟨p, e, R, s, m, args, below, meth, c, Q, cells, slots⟩ := G
  obtain ⟨⟨hx, hb, hml, hown, hts⟩, hK, hI, hN, hZ, hlocks, hnt, hF, hL, hst, hcs, hss⟩ := C
  exact fun H locs ls hP hS hl => lv_tableIn hx hb hdg h1 h2 ho ht (k H locs ls hP hS hl)
theorem z_tableOut (C : zCT tb h ad lay nL G cc own Ts F L) {dflt lo hi : Int} {offs : Array Int} {len : Nat} {x : Int32} {tgt : Nat} (hdg : decode cc pc = .ok (.tableswitch dflt lo hi offs, len)) (h9 : x.toInt < lo ∨ hi < x.toInt) (ht : (pc : Int) + dflt = (tgt : Int))
    (k : zV h ad lay nL G σ tgt lv st) : zV h ad lay nL G σ pc lv (.int x :: st) := by
  obtain ⟨p, e, R, s, m, args, below, meth, c, Q, cells, slots⟩ := G
  obtain ⟨⟨hx, hb, hml, hown, hts⟩, hK, hI, hN, hZ, hlocks, hnt, hF, hL, hst, hcs, hss⟩ := C
  exact fun H locs ls hP hS hl => lv_tableOut hx hb hdg h9 ht (k H locs ls hP hS hl)
theorem z_ne {x v : Int32} {n : Int} (h : ¬ x = v) (hv : v.toInt = n) : x.toInt ≠ n := fun q => h (Int32.toInt_inj.mp (q.trans hv.symm))
theorem zE_get {cA : Nat → ClassId} {f : Nat → Int32} {fs : List Nat} {j : Nat} {o : Nat} (h : fs[j]? = some o) : (fs.mapIdx (zF ad f))[j]? = some (zF ad f j o) := by simp [List.getElem?_mapIdx, h]
/-- a field that holds a number -/
theorem z_get (C : zCT tb h ad lay nL G cc own Ts F L) {k ci : Nat} {fs : List Nat} {Cn : String} {T : u_T} {N i : Nat} (hk : lay[k]? = some (.inr (ci, fs))) (hc : vwCl[ci]? = some (Cn, T, N)) (hin : ∀ w ∈ u_ws Cn T N, w ∈ Ts) (j : Nat) (hj : j < N) (hf : fs[j]? = some 0) (hlink : Cond.fieldLink own i Cn (T j).2.1 (T j).2.2.1 ∈ Ts) (hcl : (T j).1 = Cn) (hdg : decode cc pc = .ok (.getfield i, 3))
    (kk : zV h ad lay nL G σ (pc + 3) lv (.int (σ k j) :: st)) : zV h ad lay nL G σ pc lv (.ref (ad k) :: st) := by
  obtain ⟨p, e, R, s, m, args, below, meth, c, Q, cells, slots⟩ := G
  obtain ⟨⟨hx, hb, hml, hown, hts⟩, hK, hI, hN, hZ, hlocks, hnt, hF, hL, hst, hcs, hss⟩ := C
  exact fun H locs ls hP hS hl => va_get (D := (h.2.1, h.2.2.1)) (ref := Cn) hx hb hts hin hown hK hP k (zW_at hk) hc j hj (hts _ hlink) (fun x hx => by rw [hcl] at hx; exact hx) (zE_get (cA := h.2.2.2) hf) hdg (kk H locs ls hP hS hl)
/-- a field that holds a reference, always the same -/
theorem z_getr (C : zCT tb h ad lay nL G cc own Ts F L) {k ci r : Nat} {fs : List Nat} {Cn : String} {T : u_T} {N i : Nat} (hk : lay[k]? = some (.inr (ci, fs))) (hc : vwCl[ci]? = some (Cn, T, N)) (hin : ∀ w ∈ u_ws Cn T N, w ∈ Ts) (j : Nat) (hj : j < N) (hf : fs[j]? = some (r + 2)) (hlink : Cond.fieldLink own i Cn (T j).2.1 (T j).2.2.1 ∈ Ts) (hcl : (T j).1 = Cn) (hdg : decode cc pc = .ok (.getfield i, 3))
    (kk : zV h ad lay nL G σ (pc + 3) lv (.ref (ad r) :: st)) : zV h ad lay nL G σ pc lv (.ref (ad k) :: st) := by
  obtain ⟨p, e, R, s, m, args, below, meth, c, Q, cells, slots⟩ := G
  obtain ⟨⟨hx, hb, hml, hown, hts⟩, hK, hI, hN, hZ, hlocks, hnt, hF, hL, hst, hcs, hss⟩ := C
  exact fun H locs ls hP hS hl => va_get (D := (h.2.1, h.2.2.1)) (ref := Cn) hx hb hts hin hown hK hP k (zW_at hk) hc j hj (hts _ hlink) (fun x hx => by rw [hcl] at hx; exact hx) (zE_get (cA := h.2.2.2) hf) hdg (kk H locs ls hP hS hl)
theorem z_put (C : zCT tb h ad lay nL G cc own Ts F L) {k ci : Nat} {fs : List Nat} {Cn : String} {T : u_T} {N i : Nat} {ty0 : Nat → FieldType} (hk : lay[k]? = some (.inr (ci, fs))) (hc : vwCl[ci]? = some (Cn, T, N)) (hin : ∀ w ∈ u_ws Cn T N, w ∈ Ts) (hty : ∀ k, k < N → parseFieldDescriptor (T k).2.2.1 = some (ty0 k)) (hnm : ∀ a, a < N → ∀ b, b < N → a ≠ b → (T a).2.1 ≠ (T b).2.1) (j : Nat) (hj : j < N) (hf : fs[j]? = some 0) (hlink : Cond.fieldLink own i Cn (T j).2.1 (T j).2.2.1 ∈ Ts) (hcl : (T j).1 = Cn) (hfin : (T j).2.2.2 = false) (hd : (T j).2.2.1 = "I") {v : Int32} (he : σ1 = zU σ k j v) (hdg : decode cc pc = .ok (.putfield i, 3))
    (kk : zV h ad lay nL G σ1 (pc + 3) lv st) : zV h ad lay nL G σ pc lv (.int v :: .ref (ad k) :: st) := by
  obtain ⟨p, e, R, s, m, args, below, meth, c, Q, cells, slots⟩ := G
  obtain ⟨⟨hx, hb, hml, hown, hts⟩, hK, hI, hN, hZ, hlocks, hnt, hF, hL, hst, hcs, hss⟩ := C
  have hjl : j < fs.length := (List.getElem?_eq_some_iff.mp hf).1
  exact fun H locs ls hP hS hl => va_put (D := (h.2.1, h.2.2.1)) (ref := Cn) (ty := .int) hx hb hts hin ty0 hty hnm hown hK hP (zD_of σ hI) hS k (zW_at hk) hc j hj (hts _ hlink) (fun x hx => by rw [hcl] at hx; exact hx) hfin (by rw [hd]; decide +kernel) rfl rfl (by simpa using hjl) hdg (fun H1 locs1 hP1 _ hS1 => kk H1 locs1 ls (by
    rw [zF_set hf, zW_set (σ' := zU σ k j v) hk (by rw [zU_s]; rfl) zU_o, ← he] at hP1; exact hP1) hS1 hl)
theorem z_iald (C : zCT tb h ad lay nL G cc own Ts F L) {k n : Nat} {i v : Int32} (hk : lay[k]? = some (.inl (0, n))) (hin : vp_in i n) (hv : v = σ k i.toNatClampNeg) (hdg : decode cc pc = .ok (.iaload, 1))
    (kk : zV h ad lay nL G σ (pc + 1) lv (.int v :: st)) : zV h ad lay nL G σ pc lv (.int i :: .ref (ad k) :: st) := by
  obtain ⟨p, e, R, s, m, args, below, meth, c, Q, cells, slots⟩ := G
  obtain ⟨⟨hx, hb, hml, hown, hts⟩, hK, hI, hN, hZ, hlocks, hnt, hF, hL, hst, hcs, hss⟩ := C
  subst hv
  exact fun H locs ls hP hS hl => va_iald (D := (h.2.1, h.2.2.1)) hx hb hK hP k 0 (zW_at hk) rfl hin hdg (kk H locs ls hP hS hl)
theorem z_iast (C : zCT tb h ad lay nL G cc own Ts F L) {k n : Nat} {i x : Int32} (hk : lay[k]? = some (.inl (0, n))) (hin : vp_in i n) (he : σ1 = zU σ k i.toNatClampNeg x) (hdg : decode cc pc = .ok (.iastore, 1))
    (kk : zV h ad lay nL G σ1 (pc + 1) lv st) : zV h ad lay nL G σ pc lv (.int x :: .int i :: .ref (ad k) :: st) := by
  obtain ⟨p, e, R, s, m, args, below, meth, c, Q, cells, slots⟩ := G
  obtain ⟨⟨hx, hb, hml, hown, hts⟩, hK, hI, hN, hZ, hlocks, hnt, hF, hL, hst, hcs, hss⟩ := C
  subst he
  exact fun H locs ls hP hS hl => va_iast (D := (h.2.1, h.2.2.1)) hx hb hK hP (zD_of σ hI) hS k 0 (zW_at hk) rfl hin hdg (fun H1 locs1 hP1 _ hS1 => kk H1 locs1 ls (by
    rw [zW_set (σ' := zU σ k i.toNatClampNeg x) hk (by rw [zU_s]; rfl) zU_o] at hP1; exact hP1) hS1 hl)
theorem z_alen (C : zCT tb h ad lay nL G cc own Ts F L) {k n : Nat} {v : Int32} (hk : lay[k]? = some (.inl (0, n))) (hv : Int32.ofNat n = v) (hdg : decode cc pc = .ok (.arraylength, 1))
    (kk : zV h ad lay nL G σ (pc + 1) lv (.int v :: st)) : zV h ad lay nL G σ pc lv (.ref (ad k) :: st) := by
  obtain ⟨p, e, R, s, m, args, below, meth, c, Q, cells, slots⟩ := G
  obtain ⟨⟨hx, hb, hml, hown, hts⟩, hK, hI, hN, hZ, hlocks, hnt, hF, hL, hst, hcs, hss⟩ := C
  exact fun H locs ls hP hS hl => va_alen (D := (h.2.1, h.2.2.1)) hx hb hK hP k 0 (zW_at hk) rfl hv hdg (kk H locs ls hP hS hl)

theorem z_mmin (C : zCT tb h ad lay nL G cc own Ts F L) {i : Nat} {x y : Int32} (h1 : Cond.methodLink own i Lib.Math.min.name ∈ Ts) (h2 : Cond.static Lib.Math.min.name ∈ Ts) (h3 : Cond.initialized "java/lang/Math" ∈ Ts) (h4 : Cond.code Lib.Math.min.name Lib.Math.min.code 2 (some .int) ∈ Ts) (hf : 1 ≤ F) (hL9 : (st.map fun v => v.category).sum + 13 ≤ L) (hdg : decode cc pc = .ok (.invokestatic i, 3))
    (kk : zV h ad lay nL G σ (pc + 3) lv (.int (if y < x then y else x) :: st)) : zV h ad lay nL G σ pc lv (.int y :: .int x :: st) := by
  obtain ⟨p, e, R, s, m, args, below, meth, c, Q, cells, slots⟩ := G
  obtain ⟨⟨hx, hb, hml, hown, hts⟩, hK, hI, hN, hZ, hlocks, hnt, hF, hL, hst, hcs, hss⟩ := C
  exact fun H locs ls hP hS hl => va_mmin hx hb (hml.trans hl.1.symm) hown (hts _ h1) (hts _ h2) (hts _ h3) (hts _ h4) (by rw [hF]; exact hf) (by rw [hL]; exact hL9) hcs hss hdg (kk H locs ls hP hS hl)
theorem z_mmax (C : zCT tb h ad lay nL G cc own Ts F L) {i : Nat} {x y : Int32} (h1 : Cond.methodLink own i Lib.Math.max.name ∈ Ts) (h2 : Cond.static Lib.Math.max.name ∈ Ts) (h3 : Cond.initialized "java/lang/Math" ∈ Ts) (h4 : Cond.code Lib.Math.max.name Lib.Math.max.code 2 (some .int) ∈ Ts) (hf : 1 ≤ F) (hL9 : (st.map fun v => v.category).sum + 13 ≤ L) (hdg : decode cc pc = .ok (.invokestatic i, 3))
    (kk : zV h ad lay nL G σ (pc + 3) lv (.int (if x < y then y else x) :: st)) : zV h ad lay nL G σ pc lv (.int y :: .int x :: st) := by
  obtain ⟨p, e, R, s, m, args, below, meth, c, Q, cells, slots⟩ := G
  obtain ⟨⟨hx, hb, hml, hown, hts⟩, hK, hI, hN, hZ, hlocks, hnt, hF, hL, hst, hcs, hss⟩ := C
  exact fun H locs ls hP hS hl => va_mmax hx hb (hml.trans hl.1.symm) hown (hts _ h1) (hts _ h2) (hts _ h3) (hts _ h4) (by rw [hF]; exact hf) (by rw [hL]; exact hL9) hcs hss hdg (kk H locs ls hP hS hl)
/-- what stands on the stack behind a call -/
def zRv (vd : Bool) (r : Int32) (rest : List Value) : List Value := match vd with
  | true => rest
  | false => .int r :: rest
theorem z_cV (C : zCT tb h ad lay nL G cc own Ts F L) {y : MethodName} {ws ws' : List Cond} {bytes : ByteArray} {maxL : Nat} {ret : Option FieldType} {index F' L' : Nat} {r : Int32} {vd : Bool} (n : Nat) (As : List Value) (rest : List Value) {Cn : String} {k ci : Nat} {fs : List Nat} {q : vw_C} (hM : zMR h ad lay vd y ws F' L' (.ref (ad k) :: As) σ (.inl r) σ1) (hT : GoodIn Ts (wsV own index Cn y ws)) (hd : y.cls = Cn ∧ y.cls ≠ "java/lang/invoke/MethodHandle" ∧ y.cls ≠ "java/lang/invoke/VarHandle" ∧ (parseMethodDescriptor y.desc).map (fun d => d.parameters.length) = some n) (hk : lay[k]? = some (.inr (ci, fs))) (hc : vwCl[ci]? = some q) (hq : q.1 = Cn) (hst : st = As.reverse ++ .ref (ad k) :: rest) (hdg : decode cc pc = .ok (.invokevirtual index, 3)) (hw : ws = Cond.code y bytes maxL ret :: ws') (hR : F' + 1 ≤ F ∧ 8 + (maxL + 11) + L' ≤ L) (hn : As.length = n) (hW : (rest.map fun v => v.category).sum ≤ 8)
    (kk : zV h ad lay nL G σ1 (pc + 3) lv (zRv vd r rest)) : zV h ad lay nL G σ pc lv st := by
  obtain ⟨p, e, R, s, m, args, below, meth, c, Q, cells, slots⟩ := G
  obtain ⟨⟨hx, hb, hml, hown, hts⟩, hK, hI, hN, hZ, hlocks, hnt, hF, hL, hst9, hcs, hss⟩ := C
  intro H locs ls hP hS hl
  have hRR : F' + 1 ≤ R.frames ∧ 8 + (maxL + 11) + L' ≤ R.locals := by rw [hF, hL]; exact hR
  have hA : ∀ q, zA ad lay.length H.size q → zA ad lay.length s.heap.size q := zA_sub hS.1
  have hRun := va_runV (g := F0 m pc ls st) (rest := rest) (H := H) (cells := cells) (slots := slots) (locs := locs) (below := below) (meth := meth) (e := e) ⟨hx, hb, hml, hown, hts⟩ (hM H.size) (cwV n hts hT hw rfl rfl hd hRR) ⟨zPre_blind, hq ▸ va_recv hK hP hc (zW_at hk), fun U hU hW9 => zPre_at hU hW9 hP hK hN hZ hS⟩ rfl hn hl.1 hst (lv_room hW) hdg ⟨hcs, hss⟩
  cases vd with
  | true => exact va_callv (a := #[]) hRun hS (fun q _ h => hA q h) hA (fun u t H1 locs1 ht hvm hw hB hz hk1 hS1 => kk H1 locs1 ls (by rw [← ht]; exact hB) hS1 hl)
  | false => exact va_calli (a := #[]) hRun hS (fun q _ h => hA q h) hA (fun r9 u t H1 locs1 ht hvm hw hB hz hk1 hS1 => by subst hw; exact kk H1 locs1 ls (by rw [← ht]; exact hB) hS1 hl)
theorem z_cS (C : zCT tb h ad lay nL G cc own Ts F L) {y : MethodName} {ws ws' : List Cond} {bytes : ByteArray} {maxL : Nat} {ret : Option FieldType} {index F' L' : Nat} {r : Int32} {vd : Bool} (n : Nat) (As : List Value) (rest : List Value) (hM : zMR h ad lay vd y ws F' L' As σ (.inl r) σ1) (hT : GoodIn Ts (va_wsS own index y ws)) (hd : y.cls ≠ "java/lang/invoke/MethodHandle" ∧ y.cls ≠ "java/lang/invoke/VarHandle" ∧ (parseMethodDescriptor y.desc).map (fun d => d.parameters.length) = some n) (hst : st = As.reverse ++ rest) (hdg : decode cc pc = .ok (.invokestatic index, 3)) (hw : ws = Cond.code y bytes maxL ret :: ws') (hR : F' + 1 ≤ F ∧ 8 + (maxL + 11) + L' ≤ L) (hn : As.length = n) (hW : (rest.map fun v => v.category).sum ≤ 8)
    (kk : zV h ad lay nL G σ1 (pc + 3) lv (zRv vd r rest)) : zV h ad lay nL G σ pc lv st := by
  obtain ⟨p, e, R, s, m, args, below, meth, c, Q, cells, slots⟩ := G
  obtain ⟨⟨hx, hb, hml, hown, hts⟩, hK, hI, hN, hZ, hlocks, hnt, hF, hL, hst9, hcs, hss⟩ := C
  intro H locs ls hP hS hl
  have hRR : F' + 1 ≤ R.frames ∧ 8 + (maxL + 11) + L' ≤ R.locals := by rw [hF, hL]; exact hR
  have hA : ∀ q, zA ad lay.length H.size q → zA ad lay.length s.heap.size q := zA_sub hS.1
  have hRun := va_runS (g := F0 m pc ls st) (rest := rest) (H := H) (cells := cells) (slots := slots) (locs := locs) (below := below) (meth := meth) (e := e) ⟨hx, hb, hml, hown, hts⟩ (hM H.size) (va_cwS n hts hT hw rfl rfl hd hRR) ⟨zPre_blind, fun U hU hW9 => zPre_at hU hW9 hP hK hN hZ hS⟩ rfl hn hl.1 hst (lv_room hW) hdg ⟨hcs, hss⟩
  cases vd with
  | true => exact va_callv (a := #[]) hRun hS (fun q _ h => hA q h) hA (fun u t H1 locs1 ht hvm hw hB hz hk1 hS1 => kk H1 locs1 ls (by rw [← ht]; exact hB) hS1 hl)
  | false => exact va_calli (a := #[]) hRun hS (fun q _ h => hA q h) hA (fun r9 u t H1 locs1 ht hvm hw hB hz hk1 hS1 => by subst hw; exact kk H1 locs1 ls (by rw [← ht]; exact hB) hS1 hl)
theorem z_cSN (C : zCT tb h ad lay nL G cc own Ts F L) {y : MethodName} {ws ws' : List Cond} {bytes : ByteArray} {maxL : Nat} {ret : Option FieldType} {index F' L' : Nat} {r : Int32} {vd : Bool} (n : Nat) (As : List Value) (rest : List Value) {host : String} (hM : zMR h ad lay vd y ws F' L' As σ (.inl r) σ1) (hT : GoodIn Ts ws) (hnn : (own, index, y, host) ∈ zN) (h1 : Cond.static y ∈ Ts) (h2 : Cond.initialized y.cls ∈ Ts) (hd : y.cls ≠ "java/lang/invoke/MethodHandle" ∧ y.cls ≠ "java/lang/invoke/VarHandle" ∧ (parseMethodDescriptor y.desc).map (fun d => d.parameters.length) = some n) (hst : st = As.reverse ++ rest) (hdg : decode cc pc = .ok (.invokestatic index, 3)) (hw : ws = Cond.code y bytes maxL ret :: ws') (hR : F' + 1 ≤ F ∧ 8 + (maxL + 11) + L' ≤ L) (hn : As.length = n) (hW : (rest.map fun v => v.category).sum ≤ 8)
    (kk : zV h ad lay nL G σ1 (pc + 3) lv (zRv vd r rest)) : zV h ad lay nL G σ pc lv st := by
  obtain ⟨p, e, R, s, m, args, below, meth, c, Q, cells, slots⟩ := G
  obtain ⟨⟨hx, hb, hml, hown, hts⟩, hK, hI, hN, hZ, hlocks, hnt, hF, hL, hst9, hcs, hss⟩ := C
  intro H locs ls hP hS hl
  have hRR : F' + 1 ≤ R.frames ∧ 8 + (maxL + 11) + L' ≤ R.locals := by rw [hF, hL]; exact hR
  have hA : ∀ q, zA ad lay.length H.size q → zA ad lay.length s.heap.size q := zA_sub hS.1
  have hRun := va_runSN (host := host) (g := F0 m pc ls st) (rest := rest) (H := H) (cells := cells) (slots := slots) (locs := locs) (below := below) (meth := meth) (e := e) ⟨hx, hb, hml, hown, hts⟩ (hM H.size) ⟨va_cnB n hts hT hw rfl rfl (hN.1 _ hnn) (hts _ h2) hd hRR, hts _ h1, trivial⟩ ⟨zPre_blind, fun U hU hW9 => zPre_at hU hW9 hP hK hN hZ hS⟩ rfl hn hl.1 hst (lv_room hW) hdg ⟨hcs, hss⟩
  cases vd with
  | true => exact va_callv (a := #[]) hRun hS (fun q _ h => hA q h) hA (fun u t H1 locs1 ht hvm hw hB hz hk1 hS1 => kk H1 locs1 ls (by rw [← ht]; exact hB) hS1 hl)
  | false => exact va_calli (a := #[]) hRun hS (fun q _ h => hA q h) hA (fun r9 u t H1 locs1 ht hvm hw hB hz hk1 hS1 => by subst hw; exact kk H1 locs1 ls (by rw [← ht]; exact hB) hS1 hl)
/-- a static callee throws: it leaves this method too -/
theorem z_xS (C : zCT [] h ad lay nL G cc own Ts F L) {y : MethodName} {ws ws' : List Cond} {bytes : ByteArray} {maxL : Nat} {ret ret0 : Option FieldType} {index F' L' : Nat} {k : Nat} {vd vd0 : Bool} (n : Nat) (As : List Value) (rest : List Value) (hM : zMR h ad lay vd y ws F' L' As σ (.inr k) σ1) (hQ : zQ h ad lay G vd0 (.inr k) σ1 ret0) (hT : GoodIn Ts (va_wsS own index y ws)) (hd : y.cls ≠ "java/lang/invoke/MethodHandle" ∧ y.cls ≠ "java/lang/invoke/VarHandle" ∧ (parseMethodDescriptor y.desc).map (fun d => d.parameters.length) = some n) (hst : st = As.reverse ++ rest) (hdg : decode cc pc = .ok (.invokestatic index, 3)) (hw : ws = Cond.code y bytes maxL ret :: ws') (hR : F' + 1 ≤ F ∧ 8 + (maxL + 11) + L' ≤ L) (hn : As.length = n) (hW : (rest.map fun v => v.category).sum ≤ 8) : zV h ad lay nL G σ pc lv st := by
  obtain ⟨p, e, R, s, m, args, below, meth, c, Q, cells, slots⟩ := G
  obtain ⟨⟨hx, hb, hml, hown, hts⟩, hK, hI, hN, hZ, hlocks, hnt, hF, hL, hst9, hcs, hss⟩ := C
  obtain ⟨rfl, hret, hroom, rfl, rfl⟩ := hQ
  obtain ⟨hr1, hr2⟩ := hroom k rfl
  intro H locs ls hP hS hl
  have hRR : F' + 1 ≤ R.frames ∧ 8 + (maxL + 11) + L' ≤ R.locals := by rw [hF, hL]; exact hR
  have hA : ∀ q, zA ad lay.length H.size q → zA ad lay.length s.heap.size q := zA_sub hS.1
  exact vx_callv (vx_runS (g := F0 m pc ls st) (rest := rest) (H := H) (cells := 0) (slots := 0) (locs := locs) (below := below) (meth := meth) (e := e) ⟨hx, hb, hml, hown, hts⟩ (hM H.size) (va_cwS n hts hT hw rfl rfl hd hRR) ⟨zPre_blind, fun U hU hW9 => zPre_at hU hW9 hP hK hN hZ hS⟩ rfl hn hl.1 hst (lv_room hW) hdg ⟨by omega, by omega⟩) hS (fun q _ h => hA q h) hA (fun q _ h => hA q h)
    (fun E ce q9 u t H1 locs1 ht hvm hpx hB hz hk1 hS1 hce hcv hcl => vx_out (fun x hx => by rw [hnt] at hx; cases hx) hlocks hce hcv hcl (fun t9 ht9 hvm9 => ⟨(), trivial, ⟨hB.1, by rw [ht9, ← ht]; exact hB.2⟩, hS1.F ht9⟩) hS1.2.2 (Nat.le_refl _) (Nat.le_refl _))
    (fun u t H1 locs1 ht hvm hw hB hz hk1 hS1 => hw.elim)
/-- throw new E() -/
theorem z_throw (C : zCT [] h ad lay nL G cc own Ts F L) {cls : String} {names : List String} {ik ic k : Nat} {vd : Bool} {ret : Option FieldType} (hQ : zQ h ad lay G vd (.inr k) σ ret) (hE : cls = zEx k) (hcls : Bundle.fit cls = true) (hnames : ∀ n ∈ names, Bundle.fit n = true) (hk : Cond.classLink own ik cls ∈ Ts) (hini : Cond.initialized cls ∈ Ts) (hat : ∀ w ∈ (vx_at0 own ic cls names).filter goodWord, w ∈ Ts) (hB : ∀ w ∈ (vx_at0 own ic cls names).filter (fun w => !goodWord w), w ∈ zBl cls) (hgood : ∀ w ∈ Cond.classLink own ik cls :: Cond.initialized cls :: vx_at0 own ic cls names, vx_ot w = true)
    (d0 : decode cc pc = .ok (.new ik, 3)) (d3 : decode cc (pc + 3) = .ok (.dup, 1)) (d4 : decode cc (pc + 4) = .ok (.invokespecial ic, 3)) (d7 : decode cc (pc + 7) = .ok (.athrow, 1)) (hRf : names.length + 3 < F) (hRl : (st.map fun v => v.category).sum + (13 * (names.length + 1) + 42) ≤ L) : zV h ad lay nL G σ pc lv st := by
  obtain ⟨p, e, R, s, m, args, below, meth, c, Q, cells, slots⟩ := G
  obtain ⟨⟨hx, hb, hml, hown, hts⟩, hK, hI, hN, hZ, hlocks, hnt, hF, hL, hst9, hcs, hss⟩ := C
  obtain ⟨rfl, hret, hroom, rfl, rfl⟩ := hQ
  obtain ⟨hr1, hr2⟩ := hroom k rfl
  intro H locs ls hP hS hl
  exact vx_throw0 hx hb hst9 hown hcls hnames (hts _ hk) (hts _ hini) (vx_hat (fun w hw => hts _ (hat w hw)) hB (zBl_of (by rw [hE]; exact hN.2.1 k) hN.2.2.1)) hgood hZ.1 hZ.2 hS (hl.1.trans hml.symm) d0 d3 d4 d7 (fun x hx => by rw [hnt] at hx; cases hx) (by rw [hF]; exact hRf) (by rw [hL]; exact hRl) (by omega) (by omega) hlocks
    (fun t hvm hsz hk1 => ⟨(), trivial, ⟨hE, hP.kept (fun k q hq => hk1 _ (hP k q hq).lt)⟩, Nat.le_trans hS.1 hsz, fun q h1 h2 => by rw [hk1 q (Nat.lt_of_lt_of_le h1 hS.1)]; exact hS.2.1 q h1 h2⟩) hS.2.2 (Nat.le_refl _) (Nat.le_refl _)
theorem z_iret0 (C : zCT tb h ad lay nL G cc own Ts F L) {res : Int32 ⊕ Nat} {v : Int32} (hQ : zQ h ad lay G false res σ' (some .int)) (hr : res = .inl v) (hs : σ' = σ) (hdg : decode cc pc = .ok (.ireturn, 1)) : zV h ad lay nL G σ pc lv [.int v] := by
  obtain ⟨p, e, R, s, m, args, below, meth, c, Q, cells, slots⟩ := G
  obtain ⟨⟨hx, hb, hml, hown, hts⟩, hK, hI, hN, hZ, hlocks, hnt, hF, hL, hst9, hcs, hss⟩ := C
  subst hr; subst hs
  obtain ⟨rfl, hret, hroom, rfl, rfl⟩ := hQ
  exact fun H locs ls hP hS hl => W.iret hx hb hret (fun t ht hW => ⟨⟨v, (), rfl, rfl, (ht ▸ hP : zPst h ad lay _ t.heap)⟩, hS.F ht⟩) hS.2.2 hdg
theorem z_zret0 (C : zCT tb h ad lay nL G cc own Ts F L) {res : Int32 ⊕ Nat} {v : Int32} (hQ : zQ h ad lay G false res σ' (some .boolean)) (hr : res = .inl v) (hs : σ' = σ) (hn : vp_nar .boolean v = v) (hdg : decode cc pc = .ok (.ireturn, 1)) : zV h ad lay nL G σ pc lv [.int v] := by
  obtain ⟨p, e, R, s, m, args, below, meth, c, Q, cells, slots⟩ := G
  obtain ⟨⟨hx, hb, hml, hown, hts⟩, hK, hI, hN, hZ, hlocks, hnt, hF, hL, hst9, hcs, hss⟩ := C
  subst hr; subst hs
  obtain ⟨rfl, hret, hroom, rfl, rfl⟩ := hQ
  have hn2 : narrow .boolean (.int v) = .int v := congrArg Value.int hn
  exact fun H locs ls hP hS hl => W.zret hx hb hret hn2 (fun t ht hW => ⟨⟨v, (), rfl, rfl, (ht ▸ hP : zPst h ad lay _ t.heap)⟩, hS.F ht⟩) hS.2.2 hdg
theorem z_vret0 (C : zCT tb h ad lay nL G cc own Ts F L) {res : Int32 ⊕ Nat} (hQ : zQ h ad lay G true res σ' none) (hr : res = .inl 0) (hs : σ' = σ) (hdg : decode cc pc = .ok (.return_, 1)) : zV h ad lay nL G σ pc lv [] := by
  obtain ⟨p, e, R, s, m, args, below, meth, c, Q, cells, slots⟩ := G
  obtain ⟨⟨hx, hb, hml, hown, hts⟩, hK, hI, hN, hZ, hlocks, hnt, hF, hL, hst9, hcs, hss⟩ := C
  subst hr; subst hs
  obtain ⟨rfl, hret, hroom, rfl, rfl⟩ := hQ
  exact fun H locs ls hP hS hl => W.vret hx hb hret (fun t ht hW => ⟨⟨(), rfl, trivial, (ht ▸ hP : zPst h ad lay _ t.heap)⟩, hS.F ht⟩) hS.2.2 hdg
theorem zC_I (C : zCT tb h ad lay nL G cc own Ts F L) : zI ad lay.length := by
  obtain ⟨p, e, R, s, m, args, below, meth, c, Q, cells, slots⟩ := G
  exact C.2.2.1
theorem zC_st (C : zCT tb h ad lay nL G cc own Ts F L) : h.1.stackTraces = false := by
  obtain ⟨p, e, R, s, m, args, below, meth, c, Q, cells, slots⟩ := G
  exact C.2.2.2.2.2.2.2.2.2.1
end ZL
section ZM
/-! the words that the models are written in -/
variable {β : Type}
def zRt (v : Int32) (σ : zS) : Option (Int32 × zS) := some (v, σ)
def zRx (v : Int32) (σ : zS) : Option ((Int32 ⊕ Nat) × zS) := some (.inl v, σ)
def zTx (k : Nat) (σ : zS) : Option ((Int32 ⊕ Nat) × zS) := some (.inr k, σ)
def zLt {α : Type} (x : α) (f : α → Option β) : Option β := f x
def zRd (g : Nat → Int32) (i : Int32) (n : Nat) (f : Int32 → Option β) : Option β := if i < 0 ∨ n ≤ i.toNatClampNeg then none else f (g i.toNatClampNeg)
def zWr (σ : zS) (k : Nat) (i : Int32) (n : Nat) (v : Int32) (f : zS → Option β) : Option β := if i < 0 ∨ n ≤ i.toNatClampNeg then none else f (zU σ k i.toNatClampNeg v)
def zGd (c : Prop) [Decidable c] (x : Option β) : Option β := if c then x else none
def zBd (x : Option (Int32 × zS)) (f : Int32 → zS → Option β) : Option β := match x with
  | some (v, s) => f v s
  | none => none
def zBx (x : Option ((Int32 ⊕ Nat) × zS)) (f : Int32 → zS → Option ((Int32 ⊕ Nat) × zS)) : Option ((Int32 ⊕ Nat) × zS) := match x with
  | some (.inl v, s) => f v s
  | some (.inr k, s) => some (.inr k, s)
  | none => none
theorem zRt_of {v r : Int32} {σ σ' : zS} (h : zRt v σ = some (r, σ')) : (Sum.inl r : Int32 ⊕ Nat) = .inl v ∧ σ' = σ := by cases h; exact ⟨rfl, rfl⟩
theorem zRx_of {v : Int32} {res : Int32 ⊕ Nat} {σ σ' : zS} (h : zRx v σ = some (res, σ')) : res = .inl v ∧ σ' = σ := by cases h; exact ⟨rfl, rfl⟩
theorem zTx_of {k : Nat} {res : Int32 ⊕ Nat} {σ σ' : zS} (h : zTx k σ = some (res, σ')) : res = .inr k ∧ σ' = σ := by cases h; exact ⟨rfl, rfl⟩
theorem zLt_of {α : Type} {x : α} {f : α → Option β} {r : β} (h : zLt x f = some r) : ∃ y, y = x ∧ f y = some r := ⟨x, rfl, h⟩
theorem zRd_of {g : Nat → Int32} {i : Int32} {n : Nat} {f : Int32 → Option β} {r : β} (h : zRd g i n f = some r) : ∃ v, vp_in i n ∧ v = g i.toNatClampNeg ∧ f v = some r := by
  unfold zRd at h
  split at h
  · cases h
  · exact ⟨_, by assumption, rfl, h⟩
theorem zWr_of {σ : zS} {k : Nat} {i : Int32} {n : Nat} {v : Int32} {f : zS → Option β} {r : β} (h : zWr σ k i n v f = some r) : ∃ σ1, vp_in i n ∧ σ1 = zU σ k i.toNatClampNeg v ∧ f σ1 = some r := by
  unfold zWr at h
  split at h
  · cases h
  · exact ⟨_, by assumption, rfl, h⟩
theorem zGd_of {c : Prop} [Decidable c] {x : Option β} {r : β} (h : zGd c x = some r) : c ∧ x = some r := by
  unfold zGd at h
  split at h
  · exact ⟨by assumption, h⟩
  · cases h
theorem zBd_of {x : Option (Int32 × zS)} {f : Int32 → zS → Option β} {r : β} (h : zBd x f = some r) : ∃ v s, x = some (v, s) ∧ f v s = some r := by
  unfold zBd at h
  split at h
  · exact ⟨_, _, rfl, h⟩
  · cases h
theorem zBx_of {x : Option ((Int32 ⊕ Nat) × zS)} {f : Int32 → zS → Option ((Int32 ⊕ Nat) × zS)} {r : Int32 ⊕ Nat} {σ' : zS} (h : zBx x f = some (r, σ')) : (∃ v s, x = some (.inl v, s) ∧ f v s = some (r, σ')) ∨ (∃ k, x = some (.inr k, σ') ∧ r = .inr k) := by
  unfold zBx at h
  split at h
  · exact Or.inl ⟨_, _, rfl, h⟩
  · cases h; exact Or.inr ⟨_, rfl, rfl⟩
  · cases h
theorem zIt {c : Prop} [Decidable c] {a b : Option β} {r : β} (h : (if c then a else b) = some r) (hc : c) : a = some r := by rw [if_pos hc] at h; exact h
theorem zIf {c : Prop} [Decidable c] {a b : Option β} {r : β} (h : (if c then a else b) = some r) (hc : ¬ c) : b = some r := by rw [if_neg hc] at h; exact h
end ZM
