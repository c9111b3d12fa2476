section ZCN
/-! constructors: the layout grows -/
def zAd (l : List Nat) : Nat → Nat := fun i => l.getD i 0
def z0 : zS := fun _ _ => 0
def zKo (n : Nat) (kd : zK) : Bool := match kd with
  | .inl _ => true
  | .inr q => q.2.all (fun f => decide (f < n + 2))
def zOK (lay : List zK) : Bool := lay.all (zKo lay.length)
variable {h : zH} {ad ad' ad0 : Nat → Nat} {lay lay' lay0 : List zK} {nL : Nat} {G : zG} {A : Nat → Prop} {cc : ByteArray} {own : String} {Ts : List Cond} {F L Cc Cs cells slots : Nat} {σ σ1 σ' : zS} {pc : Nat} {lv lv' : List (Nat × Value)} {st rest : List Value}
theorem zF_ext {n : Nat} {f : Nat → Int32} {i x : Nat} (hx : x < n + 2) (ha : ∀ r, r < n → ad' r = ad r) : zF ad' f i x = zF ad f i x := by
  rcases x with _ | _ | x
  · rfl
  · rfl
  · exact congrArg Value.ref (ha x (by omega))
theorem zE_ext {cA : Nat → ClassId} {f : Nat → Int32} {kd : zK} {n : Nat} (hok : zKo n kd = true) (ha : ∀ r, r < n → ad' r = ad r) : zE cA ad' f kd = zE cA ad f kd := by
  rcases kd with ⟨z, m⟩ | ⟨ci, fs⟩
  · rcases z with _ | _ | _ | z <;> rfl
  · show (Sum.inr (ci, fs.mapIdx (zF ad' f)) : va_E) = Sum.inr (ci, fs.mapIdx (zF ad f))
    congr 2
    apply List.ext_getElem?
    intro i
    simp only [List.getElem?_mapIdx]
    cases hx : fs[i]? with
    | none => rfl
    | some x => exact congrArg some (zF_ext (of_decide_eq_true (List.all_eq_true.mp hok x (List.mem_of_getElem? hx))) ha)
theorem zPst_ext {H : Heap} (hok : zOK lay = true) (ha : ∀ r, r < lay.length → ad' r = ad r) (hP : zPst h ad lay σ H) : zPst h ad' lay σ H := by
  intro k q hq
  obtain ⟨kd, hk, rfl⟩ := zW_is hq
  have hl := (List.getElem?_eq_some_iff.mp hk).1
  have h3 := hP k _ (zW_at hk)
  rw [ha k hl, zE_ext (List.all_eq_true.mp hok kd (List.mem_of_getElem? hk)) ha]
  exact h3
theorem zPst_push {H : Heap} {kd : zK} {q : Nat} {e : va_E} (hok : zOK lay = true) (ha : ∀ r, r < lay.length → ad' r = ad r) (hq : ad' lay.length = q) (he : e = zE h.2.2.2 ad' (σ lay.length) kd) (hP : va_P (h.2.1, h.2.2.1) vwCl (zW h.2.2.2 ad lay σ ++ [(q, e)]) H) : zPst h ad' (lay ++ [kd]) σ H := by
  have hln : (zW h.2.2.2 ad lay σ).length = lay.length := by simp [zW]
  have h1 : zPst h ad lay σ H := fun k x hx => hP k x (by
    rw [List.getElem?_append_left (List.getElem?_eq_some_iff.mp hx).1]; exact hx)
  have h2 := zPst_ext hok ha h1
  intro k x hx
  obtain ⟨kd', hk, rfl⟩ := zW_is hx
  by_cases hl : k < lay.length
  · rw [List.getElem?_append_left hl] at hk
    exact h2 k _ (zW_at hk)
  · have hl2 := (List.getElem?_eq_some_iff.mp hk).1
    rw [List.length_append, List.length_singleton] at hl2
    have hk0 : k = lay.length := by omega
    subst hk0
    rw [List.getElem?_append_right (Nat.le_refl _), Nat.sub_self] at hk
    cases hk
    have h3 := hP lay.length (q, e) (by rw [List.getElem?_append_right (by omega), hln, Nat.sub_self]; rfl)
    rw [hq, ← he]
    exact h3
def zCc (h : zH) (nL : Nat) (G : zG) (A : Nat → Prop) (cc : ByteArray) (own : String) (Ts : List Cond) (F L Cc Cs : Nat) : Prop := match G with
  | (p, _, R, s, m, args, _, meth, c, _, _, _) => (p.tables.exec = Jvm.exec ∧ c.code = cc ∧ c.maxLocals = nL ∧ s.vm.findClass own = some m.cls ∧ (∀ w ∈ Ts, w.before args s = true)) ∧ va_K (h.2.1, h.2.2.1) vwCl (zT h.2.2.2) s ∧ (∀ q, s.heap.size ≤ q → A q) ∧ R.frames = F ∧ R.locals = L ∧ R.cells = Cc ∧ R.slots = Cs ∧ zHN s ∧ zHS A s s.heap
def zVc (h : zH) (nL : Nat) (G : zG) (A : Nat → Prop) (ad : Nat → Nat) (lay : List zK) (σ : zS) (cells slots : Nat) (pc : Nat) (lv : List (Nat × Value)) (st : List Value) : Prop := match G with
  | (p, e, R, s, m, args, below, meth, c, Q, _, _) => zI ad lay.length → (∀ i, i < lay.length → A (ad i)) → ∀ (H : Heap) (locs : List Loc) (ls : Array Slot), zPst h ad lay σ H → va_S A s.heap H locs → lv_has ls nL lv → W p h.1 e R s m args below meth c H locs cells slots Q (F0 m pc ls st)
theorem zDA (σ : zS) {cA : Nat → ClassId} (hI : zI ad lay.length) (hA : ∀ i, i < lay.length → A (ad i)) : va_D A (zW cA ad lay σ) := by
  refine ⟨fun i j p q hp hq hpq => ?_, fun k q hq => ?_⟩
  · obtain ⟨h1, h2⟩ := zW_key hp
    obtain ⟨h3, h4⟩ := zW_key hq
    exact hI i j h1 h3 (by rw [← h2, ← h4]; exact hpq)
  · obtain ⟨h1, h2⟩ := zW_key hq
    rw [h2]; exact hA k h1
/-- the same addresses under another name -/
theorem n_ad (l : List Nat) (hok : zOK lay = true) (ha : ∀ r, r < lay.length → zAd l r = ad r) (k : zVc h nL G A (zAd l) lay σ cells slots pc lv st) : zVc h nL G A ad lay σ cells slots pc lv st := by
  obtain ⟨p, e, R, s, m, args, below, meth, c, Q, c0, s0⟩ := G
  intro hI hAi H locs ls hP hS hl
  exact k (fun i j hi hj e9 => hI i j hi hj (by rw [← ha i hi, ← ha j hj]; exact e9)) (fun i hi => by rw [ha i hi]; exact hAi i hi) H locs ls (zPst_ext hok ha hP) hS hl
theorem n_sub (ks : List Nat) (hl : lv_pick lv ks = lv') (k : zVc h nL G A ad lay σ cells slots pc lv' st) : zVc h nL G A ad lay σ cells slots pc lv st := by
  obtain ⟨p, e, R, s, m, args, below, meth, c, Q, c0, s0⟩ := G
  exact fun hI hAi H locs ls hP hS hl9 => k hI hAi H locs ls hP hS (lv_sub hl9 ks hl)
theorem n_aload_n (C : zCc h nL G A cc own Ts F L Cc Cs) {kk : Fin 4} {i x : Nat} (hdg : decode cc pc = .ok (.aload_n kk, 1)) (hi : (kk : Nat) = i) (j : Nat) (hj : lv[j]? = some (i, .ref x)) (k : zVc h nL G A ad lay σ cells slots (pc + 1) lv (.ref x :: st)) : zVc h nL G A ad lay σ cells slots pc lv st := by
  obtain ⟨p, e, R, s, m, args, below, meth, c, Q, c0, s0⟩ := G
  exact fun hI hAi H locs ls hP hS hl => lv_aload_n C.1.1 C.1.2.1 hdg hi (lv_at hl j hj) (k hI hAi H locs ls hP hS hl)
theorem n_aload (C : zCc h nL G A cc own Ts F L Cc Cs) {i x : Nat} (hdg : decode cc pc = .ok (.aload i, 2)) (j : Nat) (hj : lv[j]? = some (i, .ref x)) (k : zVc h nL G A ad lay σ cells slots (pc + 2) lv (.ref x :: st)) : zVc h nL G A ad lay σ cells slots pc lv st := by
  obtain ⟨p, e, R, s, m, args, below, meth, c, Q, c0, s0⟩ := G
  exact fun hI hAi H locs ls hP hS hl => lv_aload C.1.1 C.1.2.1 hdg (lv_at hl j hj) (k hI hAi H locs ls hP hS hl)
theorem n_iconst (C : zCc h nL G A cc own Ts F L Cc Cs) {n : Int} {v : Int32} (hdg : decode cc pc = .ok (.iconst n, 1)) (hv : Int32.ofInt n = v) (k : zVc h nL G A ad lay σ cells slots (pc + 1) lv (.int v :: st)) : zVc h nL G A ad lay σ cells slots pc lv st := by
  obtain ⟨p, e, R, s, m, args, below, meth, c, Q, c0, s0⟩ := G
  exact fun hI hAi H locs ls hP hS hl => lv_iconst C.1.1 C.1.2.1 hdg hv (k hI hAi H locs ls hP hS hl)
theorem n_bipush (C : zCc h nL G A cc own Ts F L Cc Cs) {n : Int} {v : Int32} (hdg : decode cc pc = .ok (.bipush n, 2)) (hv : (Int8.ofInt n).toInt32 = v) (k : zVc h nL G A ad lay σ cells slots (pc + 2) lv (.int v :: st)) : zVc h nL G A ad lay σ cells slots pc lv st := by
  obtain ⟨p, e, R, s, m, args, below, meth, c, Q, c0, s0⟩ := G
  exact fun hI hAi H locs ls hP hS hl => lv_bipush C.1.1 C.1.2.1 hdg hv (k hI hAi H locs ls hP hS hl)
theorem n_dup (C : zCc h nL G A cc own Ts F L Cc Cs) {v : Value} (hdg : decode cc pc = .ok (.dup, 1)) (hv : v.category = 1) (k : zVc h nL G A ad lay σ cells slots (pc + 1) lv (v :: v :: st)) : zVc h nL G A ad lay σ cells slots pc lv (v :: st) := by
  obtain ⟨p, e, R, s, m, args, below, meth, c, Q, c0, s0⟩ := G
  exact fun hI hAi H locs ls hP hS hl => lv_dup C.1.1 C.1.2.1 hdg hv (k hI hAi H locs ls hP hS hl)
theorem n_pop (C : zCc h nL G A cc own Ts F L Cc Cs) {v : Value} (hdg : decode cc pc = .ok (.pop, 1)) (hv : v.category = 1) (k : zVc h nL G A ad lay σ cells slots (pc + 1) lv st) : zVc h nL G A ad lay σ cells slots pc lv (v :: st) := by
  obtain ⟨p, e, R, s, m, args, below, meth, c, Q, c0, s0⟩ := G
  exact fun hI hAi H locs ls hP hS hl => lv_pop C.1.1 C.1.2.1 hdg hv (k hI hAi H locs ls hP hS hl)
theorem n_astore_n (C : zCc h nL G A cc own Ts F L Cc Cs) {kk : Fin 4} {i x : Nat} (hdg : decode cc pc = .ok (.astore_n kk, 1)) (hi : (kk : Nat) = i) (hn : i < nL) (hl9 : (i, Value.ref x) :: lv.filter (fun q => !(q.1 == i) && !(q.1 + 1 == i && q.2.category == 2)) = lv') (k : zVc h nL G A ad lay σ cells slots (pc + 1) lv' st) : zVc h nL G A ad lay σ cells slots pc lv (.ref x :: st) := by
  obtain ⟨p, e, R, s, m, args, below, meth, c, Q, c0, s0⟩ := G
  exact fun hI hAi H locs ls hP hS hl => lv_astore_n C.1.1 C.1.2.1 hdg hi hl hn hl9 (fun ls hl => k hI hAi H locs ls hP hS hl)
theorem n_istore (C : zCc h nL G A cc own Ts F L Cc Cs) {i : Nat} {x : Int32} (hdg : decode cc pc = .ok (.istore i, 2)) (hn : i < nL) (hl9 : (i, Value.int x) :: lv.filter (fun q => !(q.1 == i) && !(q.1 + 1 == i && q.2.category == 2)) = lv') (k : zVc h nL G A ad lay σ cells slots (pc + 2) lv' st) : zVc h nL G A ad lay σ cells slots pc lv (.int x :: st) := by
  obtain ⟨p, e, R, s, m, args, below, meth, c, Q, c0, s0⟩ := G
  exact fun hI hAi H locs ls hP hS hl => lv_istore C.1.1 C.1.2.1 hdg hl hn hl9 (fun ls hl => k hI hAi H locs ls hP hS hl)
/-- Object's constructor -/
theorem n_obj (C : zCc h nL G A cc own Ts F L Cc Cs) {i a : Nat} (h1 : Cond.methodLink own i Lib.objectInit ∈ Ts) (h2 : Cond.instanceMethod Lib.objectInit ∈ Ts) (h3 : Cond.code Lib.objectInit ⟨#[0xb1]⟩ 1 none ∈ Ts) (hd : decode cc pc = .ok (.invokespecial i, 3)) (hf : 1 ≤ F) (hL9 : (rest.map fun v => v.category).sum + 12 ≤ L) (k : zVc h nL G A ad lay σ cells slots (pc + 3) lv rest) : zVc h nL G A ad lay σ cells slots pc lv (.ref a :: rest) := by
  obtain ⟨p, e, R, s, m, args, below, meth, c, Q, c0, s0⟩ := G
  obtain ⟨⟨hx, hb, hml, hown, hts⟩, hK, hAA, hF, hL, hCc, hCs, hN, hZ⟩ := C
  exact fun hI hAi H locs ls hP hS hl => W.objInit hx hb hown (hts _ h1) (hts _ h2) (hts _ h3) rfl (hl.1.trans hml.symm) rfl hd (by rw [hF]; exact hf) (by rw [hL]; show 2 * 0 + _ + 12 ≤ L; omega) (k hI hAi H locs ls hP hS hl)
theorem n_getr (C : zCc h nL G A cc own Ts F L Cc Cs) {k ci r b q9 : Nat} {fs : List Nat} {Cn : String} {T : u_T} {N i : Nat} (hk : lay[k]? = some (.inr (ci, fs))) (hc : vwCl[ci]? = some (Cn, T, N)) (hin : ∀ w ∈ u_ws Cn T N, w ∈ Ts) (j : Nat) (hj : j < N) (hf : fs[j]? = some (r + 2)) (hlink : Cond.fieldLink own i Cn (T j).2.1 (T j).2.2.1 ∈ Ts) (hcl : (T j).1 = Cn) (hb9 : ad k = b) (hr9 : ad r = q9) (hdg : decode cc pc = .ok (.getfield i, 3))
    (kk : zVc h nL G A ad lay σ cells slots (pc + 3) lv (.ref q9 :: st)) : zVc h nL G A ad lay σ cells slots pc lv (.ref b :: st) := by
  obtain ⟨p, e, R, s, m, args, below, meth, c, Q, c0, s0⟩ := G
  obtain ⟨⟨hx, hb, hml, hown, hts⟩, hK, hAA, hF, hL, hCc, hCs, hN, hZ⟩ := C
  subst hb9; subst hr9
  exact fun hI hAi H locs ls hP hS hl => va_get (D := (h.2.1, h.2.2.1)) (ref := Cn) hx hb hts hin hown hK hP k (zW_at hk) hc j hj (hts _ hlink) (fun x hx => by rw [hcl] at hx; exact hx) (zE_get (cA := h.2.2.2) hf) hdg (kk hI hAi H locs ls hP hS hl)
theorem zW_setr {cA : Nat → ClassId} {k ci j r : Nat} {fs : List Nat} (hk : lay[k]? = some (.inr (ci, fs))) (hj : j < fs.length) : (zW cA ad lay σ).set k (ad k, .inr (ci, (fs.mapIdx (zF ad (σ k))).set j (.ref (ad r)))) = zW cA ad (lay.set k (.inr (ci, fs.set j (r + 2)))) σ := by
  apply List.ext_getElem?
  intro i
  have hkl := (List.getElem?_eq_some_iff.mp hk).1
  by_cases hi : i = k
  · subst hi
    have hl : i < (zW cA ad lay σ).length := (List.getElem?_eq_some_iff.mp (zW_at hk)).1
    rw [List.getElem?_set_self hl, zW_at (kd := .inr (ci, fs.set j (r + 2))) (by rw [List.getElem?_set_self hkl])]
    show some (ad i, (Sum.inr (ci, _) : va_E)) = some (ad i, Sum.inr (ci, _))
    congr 3
    congr 1
    apply List.ext_getElem?
    intro a
    by_cases ha : a = j
    · subst ha
      rw [List.getElem?_set_self (by simpa using hj)]
      simp only [List.getElem?_mapIdx, List.getElem?_set_self hj]
      rfl
    · rw [List.getElem?_set_ne (Ne.symm ha)]
      simp only [List.getElem?_mapIdx, List.getElem?_set_ne (Ne.symm ha)]
  · rw [List.getElem?_set_ne (Ne.symm hi)]
    simp only [zW, List.getElem?_mapIdx, List.getElem?_set_ne (Ne.symm hi)]
/-- a final field gets its reference -/
theorem n_putr (C : zCc h nL G A cc own Ts F L Cc Cs) (hin2 : G.2.2.2.2.2.2.2.1.name = "<init>") {k ci r b q9 : Nat} {fs : List Nat} {Cn : String} {T : u_T} {N i : Nat} {ty0 : Nat → FieldType} {ty : FieldType} (hk : lay[k]? = some (.inr (ci, fs))) (hc : vwCl[ci]? = some (Cn, T, N)) (hin : ∀ w ∈ u_ws Cn T N, w ∈ Ts) (hty : ∀ k, k < N → parseFieldDescriptor (T k).2.2.1 = some (ty0 k)) (hnm : ∀ a, a < N → ∀ b, b < N → a ≠ b → (T a).2.1 ≠ (T b).2.1) (j : Nat) (hj : j < N) (hfl : j < fs.length) (hlink : Cond.fieldLink own i Cn (T j).2.1 (T j).2.2.1 ∈ Ts) (hcl : (T j).1 = Cn) (hdecl : (T j).1 = own) (hfin : (T j).2.2.2 = true) (hd : parseFieldDescriptor (T j).2.2.1 = some ty) (hnw : narrow ty (.ref (ad r)) = .ref (ad r)) (hft : fits ty (.ref (ad r)) = true) (hb9 : ad k = b) (hr9 : ad r = q9) (hlay : lay.set k (.inr (ci, fs.set j (r + 2))) = lay') (hdg : decode cc pc = .ok (.putfield i, 3))
    (kk : zVc h nL G A ad lay' σ cells slots (pc + 3) lv st) : zVc h nL G A ad lay σ cells slots pc lv (.ref q9 :: .ref b :: st) := by
  obtain ⟨p, e, R, s, m, args, below, meth, c, Q, c0, s0⟩ := G
  obtain ⟨⟨hx, hb, hml, hown, hts⟩, hK, hAA, hF, hL, hCc, hCs, hN, hZ⟩ := C
  subst hb9; subst hr9; subst hlay
  intro hI hAi H locs ls hP hS hl
  exact va_putF (D := (h.2.1, h.2.2.1)) (ref := Cn) (ty := ty) hx hb hts hin ty0 hty hnm hown hK hP (zDA σ hI hAi) hS k (zW_at hk) hc j hj (hts _ hlink) (fun x hx => by rw [hcl] at hx; exact hx) hfin hin2 hdecl hd hnw hft (by simpa using hfl) hdg (fun H1 locs1 hP1 _ hS1 => kk (by rw [List.length_set]; exact hI) (by rw [List.length_set]; exact hAi) H1 locs1 ls (by
    rw [zW_setr hk hfl] at hP1; exact hP1) hS1 hl)
/-- a field that isn't final gets its number -/
theorem n_put (C : zCc h nL G A cc own Ts F L Cc Cs) {k ci b : Nat} {fs : List Nat} {Cn : String} {T : u_T} {N i : Nat} {ty0 : Nat → FieldType} (hk : lay[k]? = some (.inr (ci, fs))) (hc : vwCl[ci]? = some (Cn, T, N)) (hin : ∀ w ∈ u_ws Cn T N, w ∈ Ts) (hty : ∀ k, k < N → parseFieldDescriptor (T k).2.2.1 = some (ty0 k)) (hnm : ∀ a, a < N → ∀ b, b < N → a ≠ b → (T a).2.1 ≠ (T b).2.1) (j : Nat) (hj : j < N) (hf : fs[j]? = some 0) (hlink : Cond.fieldLink own i Cn (T j).2.1 (T j).2.2.1 ∈ Ts) (hcl : (T j).1 = Cn) (hfin : (T j).2.2.2 = false) (hd : (T j).2.2.1 = "I") {v : Int32} (hb9 : ad k = b) (hdg : decode cc pc = .ok (.putfield i, 3))
    (kk : zVc h nL G A ad lay (zU σ k j v) cells slots (pc + 3) lv st) : zVc h nL G A ad lay σ cells slots pc lv (.int v :: .ref b :: st) := by
  obtain ⟨p, e, R, s, m, args, below, meth, c, Q, c0, s0⟩ := G
  obtain ⟨⟨hx, hb, hml, hown, hts⟩, hK, hAA, hF, hL, hCc, hCs, hN, hZ⟩ := C
  subst hb9
  have hjl : j < fs.length := (List.getElem?_eq_some_iff.mp hf).1
  intro hI hAi H locs ls hP hS hl
  exact va_put (D := (h.2.1, h.2.2.1)) (ref := Cn) (ty := .int) hx hb hts hin ty0 hty hnm hown hK hP (zDA σ hI hAi) hS k (zW_at hk) hc j hj (hts _ hlink) (fun x hx => by rw [hcl] at hx; exact hx) hfin (by rw [hd]; decide +kernel) rfl rfl (by simpa using hjl) hdg (fun H1 locs1 hP1 _ hS1 => kk hI hAi H1 locs1 ls (by
    rw [zF_set hf, zW_set (σ' := zU σ k j v) hk (by rw [zU_s]; rfl) zU_o] at hP1; exact hP1) hS1 hl)
/-- what a new cell adds: its place is the list's next -/
theorem zGrow {q : Nat} {l : List Nat} (hlen : l.length = lay.length) {kd : zK} : (zAd (l ++ [q]) lay.length = q) ∧ (∀ r, r < lay.length → zAd (l ++ [q]) r = zAd l r) ∧ (zI (zAd l) lay.length → (∀ i, i < lay.length → zAd l i ≠ q) → zI (zAd (l ++ [q])) (lay ++ [kd]).length) ∧ ((∀ i, i < lay.length → A (zAd l i)) → A q → ∀ i, i < (lay ++ [kd]).length → A (zAd (l ++ [q]) i)) := by
  have e1 : zAd (l ++ [q]) lay.length = q := by simp [zAd, ← hlen]
  have e2 : ∀ r, r < lay.length → zAd (l ++ [q]) r = zAd l r := fun r hr => by
    simp [zAd, List.getElem?_append_left (show r < l.length by omega)]
  refine ⟨e1, e2, fun hI hne i j hi hj e => ?_, fun hAi hq i hi => ?_⟩
  · simp only [List.length_append, List.length_singleton] at hi hj
    rcases Nat.lt_or_ge i lay.length with a | a <;> rcases Nat.lt_or_ge j lay.length with b | b
    · rw [e2 i a, e2 j b] at e; exact hI i j a b e
    · rw [show j = lay.length by omega, e1, e2 i a] at e; exact absurd e (hne i a)
    · rw [show i = lay.length by omega, e1, e2 j b] at e; exact absurd e.symm (hne j b)
    · omega
  · simp only [List.length_append, List.length_singleton] at hi
    rcases Nat.lt_or_ge i lay.length with a | a
    · rw [e2 i a]; exact hAi i a
    · rw [show i = lay.length by omega, e1]; exact hq
theorem zW_ne {cA : Nat → ClassId} {q : Nat} {e : va_E} (hD : va_D A (zW cA ad lay σ ++ [(q, e)])) : A q ∧ ∀ i, i < lay.length → ad i ≠ q := by
  have hln : (zW cA ad lay σ).length = lay.length := by simp [zW]
  have hlast : (zW cA ad lay σ ++ [(q, e)])[lay.length]? = some (q, e) := by
    rw [List.getElem?_append_right (by omega), hln, Nat.sub_self]; rfl
  refine ⟨hD.2 lay.length (q, e) hlast, fun i hi h9 => ?_⟩
  have h1 : (zW cA ad lay σ ++ [(q, e)])[i]? = some (ad i, zE cA ad (σ i) lay[i]) := by
    rw [List.getElem?_append_left (by omega)]
    exact zW_at (List.getElem?_eq_getElem hi)
  have := hD.1 i lay.length _ _ h1 hlast h9
  omega
theorem n_new (C : zCc h nL G A cc own Ts F L Cc Cs) {l ds : List Nat} {Cn : String} {T : u_T} {N ci i : Nat} {ty0 : Nat → FieldType} (hlen : l.length = lay.length) (hok : zOK lay = true) (hc : vwCl[ci]? = some (Cn, T, N)) (hin : ∀ w ∈ u_ws Cn T N, w ∈ Ts) (hty : ∀ k, k < N → parseFieldDescriptor (T k).2.2.1 = some (ty0 k)) (h1 : Cond.classLink own i Cn ∈ Ts) (h2 : Cond.instantiable Cn N ∈ Ts) (h3 : Cond.initialized Cn ∈ Ts) (hds : ∀ j, j < N → defaultValue (ty0 j) = vp_V (ds.mapIdx (zF (fun _ => 0) (fun _ => 0))) j) (hd2 : ds.all (fun f => decide (f < 2)) = true) (hσ : σ lay.length = fun _ => 0) (hcs : cells + 1 ≤ Cc ∧ slots + N ≤ Cs) (hdg : decode cc pc = .ok (.new i, 3))
    (kk : ∀ q : Nat, zVc h nL G A (zAd (l ++ [q])) (lay ++ [.inr (ci, ds)]) σ (cells + 1) (slots + N) (pc + 3) lv (.ref q :: st)) : zVc h nL G A (zAd l) lay σ cells slots pc lv st := by
  obtain ⟨p, e, R, s, m, args, below, meth, c, Q, c0, s0⟩ := G
  obtain ⟨⟨hx, hb, hml, hown, hts⟩, hK, hAA, hF, hL, hCc, hCs, hN, hZ⟩ := C
  intro hI hAi H locs ls hP hS hl
  refine va_new (D := (h.2.1, h.2.2.1)) (fs := ds.mapIdx (zF (fun _ => 0) (fun _ => 0))) hx hb hts hin ty0 hty hown (hts _ h1) (hts _ h2) (hts _ h3) hK hP (zDA σ hI hAi) hS hAA hc hds (by rw [hCc]; exact hcs.1) (by rw [hCs]; exact hcs.2) hdg (fun q H1 hP1 hD1 hS1 => ?_)
  obtain ⟨hq, hne⟩ := zW_ne hD1
  obtain ⟨g1, g2, g3, g4⟩ := zGrow (A := A) (q := q) (kd := .inr (ci, ds)) hlen
  refine kk q (g3 hI hne) (g4 hAi hq) H1 locs ls (zPst_push hok g2 g1 ?_ hP1) hS1 hl
  show (Sum.inr (ci, _) : va_E) = Sum.inr (ci, ds.mapIdx (zF (zAd (l ++ [q])) (σ lay.length)))
  congr 2
  apply List.ext_getElem?
  intro a
  simp only [List.getElem?_mapIdx]
  cases hx9 : ds[a]? with
  | none => rfl
  | some x =>
    have hx2 : x < 2 := of_decide_eq_true (List.all_eq_true.mp hd2 x (List.mem_of_getElem? hx9))
    rw [hσ]
    rcases x with _ | _ | x
    · rfl
    · rfl
    · omega
theorem n_newa (C : zCc h nL G A cc own Ts F L Cc Cs) {l : List Nat} {z : Nat} {N' : Nat} {atype : ArrayType} {ty : FieldType} {n : Int32} {a0 : vp_A} (hlen : l.length = lay.length) (hok : zOK lay = true) (harr : Cond.arrayClass (newarray.typeOf atype) ∈ Ts) (hty : newarray.typeOf atype = ty) (hz : (zT h.2.2.2)[z]? = some (h.2.2.2 z, ty)) (hra : ∀ (U : State) (cA : ClassId), va_RA U cA ty → U.vm.findClass ("[" ++ ty.toString) = some cA) (ha : ∀ cA : ClassId, vp_cell cA a0 = arrV cA N' (fun _ => defaultValue ty)) (he : zE h.2.2.2 (fun _ => 0) (fun _ => 0) (.inl (z, N')) = .inl (h.2.2.2 z, a0)) (hn : ¬ n < 0) (hN : n.toNatClampNeg = N') (hbytes : N' * componentBytes ty ≤ 536870912) (hσ : σ lay.length = fun _ => 0) (hcs : cells + 1 ≤ Cc ∧ slots + N' ≤ Cs) (hdg : decode cc pc = .ok (.newarray atype, 2))
    (kk : ∀ q : Nat, zVc h nL G A (zAd (l ++ [q])) (lay ++ [.inl (z, N')]) σ (cells + 1) (slots + N') (pc + 2) lv (.ref q :: st)) : zVc h nL G A (zAd l) lay σ cells slots pc lv (.int n :: st) := by
  obtain ⟨p, e, R, s, m, args, below, meth, c, Q, c0, s0⟩ := G
  obtain ⟨⟨hx, hb, hml, hown, hts⟩, hK, hAA, hF, hL, hCc, hCs, hN9, hZ⟩ := C
  intro hI hAi H locs ls hP hS hl
  refine va_newa (atype := atype) (D := (h.2.1, h.2.2.1)) (tys := zT h.2.2.2) (a0 := a0) hx hb (hts _ harr) hty hK hP (zDA σ hI hAi) hS hAA ha hn hN hbytes (by rw [hCc]; exact hcs.1) (by rw [hCs]; exact hcs.2) hdg (fun q cA H1 hK1 hP1 hD1 hS1 => ?_)
  have f1 := hra s _ (hK.2 z _ hz).2
  have f2 := hra s cA (hK1.2 (zT h.2.2.2).length (cA, ty) (by rw [List.getElem?_append_right (Nat.le_refl _), Nat.sub_self]; rfl)).2
  have f3 : cA = h.2.2.2 z := Option.some.inj (f2.symm.trans f1)
  subst f3
  obtain ⟨hq, hne⟩ := zW_ne hD1
  obtain ⟨g1, g2, g3, g4⟩ := zGrow (A := A) (q := q) (kd := .inl (z, N')) hlen
  refine kk q (g3 hI hne) (g4 hAi hq) H1 locs ls (zPst_push hok g2 g1 ?_ hP1) hS1 hl
  rw [hσ, ← he]
  rcases z with _ | _ | _ | z <;> rfl
/-- a constructor's contract: from one layout to a longer one -/
def zKP (ad ad' : Nat → Nat) (n0 n1 sz : Nat) : Prop := (∀ i, i < n0 → ad' i = ad i) ∧ zI ad' n1 ∧ ∀ i, n0 ≤ i → i < n1 → sz ≤ ad' i
def zKQ (h : zH) (ad : Nat → Nat) (lay0 : List zK) (lay1 : List zK) (σ1 : zS) (sz : Nat) : Array Value → State → Outcome → State → Prop := va_Qv (fun ad' : Nat → Nat => zKP ad ad' lay0.length lay1.length sz) (fun ad' t => zPst h ad' lay1 σ1 t.heap) (zA ad lay0.length sz)
def zKC (h : zH) (y : MethodName) (ws : List Cond) (F L mc ms : Nat) (ad : Nat → Nat) (argv : List Value) (lay0 : List zK) (σ0 : zS) (lay1 : List zK) (σ1 : zS) : Prop :=
  zI ad lay0.length → ∀ sz, Met h.1 y ws { frames := F, cells := mc, slots := ms, locals := L } (zPre h ad lay0 σ0 argv sz) (zKQ h ad lay0 lay1 σ1 sz) mc ms (zA ad lay0.length sz)
def zQk (h : zH) (ad : Nat → Nat) (lay0 lay1 : List zK) (σ1 : zS) (mc ms : Nat) (G : zG) (A : Nat → Prop) : Prop := match G with
  | (_, _, _, s, _, args, below, meth, _, Q, _, _) => Q = MQ below (zKQ h ad lay0 lay1 σ1 s.heap.size) args s mc ms (zA ad lay0.length s.heap.size) ∧ A = zA ad lay0.length s.heap.size ∧ meth.sig.returnType = none ∧ meth.name = "<init>" ∧ meth.locks = false
theorem z_startC {y : MethodName} {ws ws' : List Cond} {mc ms : Nat} {argv : List Value} {lay1 : List zK} (hy : plainName y.cls = true) (hw : ws = Cond.code y cc nL none :: ws') (hown : y.cls = own) (hnm : y.name = "<init>") (hlen : (lg_sl argv).length ≤ nL)
    (body : ∀ G A, zCc h nL G A cc own ws F L mc ms → zQk h ad lay0 lay1 σ1 mc ms G A → zVc h nL G A ad lay0 σ 0 0 0 (lv_args 0 argv) []) : zKC h y ws F L mc ms ad argv lay0 σ lay1 σ1 := by
  intro hI sz
  refine Met.ofW (cc := cc) (maxL := nL) (ret := none) hy hw ?_
  intro p e s m args below meth c s₁ B hml hv
  obtain ⟨rfl, hsz, hP, hK, hN, hZ⟩ := hv
  subst hsz
  rw [lg_entry_eq]
  exact body (p, e, { frames := F, cells := mc, slots := ms, locals := L }, s, m, argv.toArray, below, meth, c, _, 0, 0) (zA ad lay0.length s.heap.size) ⟨⟨B.exec, B.bytes, hml, by rw [← hown]; exact findClass_of_methodNamed B.named, atoms_spec (ws := ws) B.pre⟩, hK, fun q hq => Or.inr hq, rfl, rfl, rfl, rfl, hN, hZ⟩ ⟨rfl, rfl, B.returns, hnm ▸ (name_of_methodNamed B.named B.method).1, B.notSynchronized⟩ hI (fun i hi => Or.inl ⟨i, hi, rfl⟩) s.heap [] _ hP va_S.rf (lv_entry argv hlen)
theorem n_vret (C : zCc h nL G A cc own Ts F L Cc Cs) {mc ms : Nat} (hQ : zQk h ad0 lay0 lay σ mc ms G A) (hag : ∀ i, i < lay0.length → ad i = ad0 i) (hle : lay0.length ≤ lay.length) (hc : cells ≤ mc) (hs : slots ≤ ms) (hdg : decode cc pc = .ok (.return_, 1)) : zVc h nL G A ad lay σ cells slots pc lv [] := by
  obtain ⟨p, e, R, s, m, args, below, meth, c, Q, c0, s0⟩ := G
  obtain ⟨⟨hx, hb, hml, hown, hts⟩, hK, hAA, hF, hL, hCc, hCs, hN, hZ⟩ := C
  obtain ⟨rfl, rfl, hret, hnm, hlocks⟩ := hQ
  intro hI hAi H locs ls hP hS hl
  have hnew : ∀ i, lay0.length ≤ i → i < lay.length → s.heap.size ≤ ad i := by
    intro i h1 h2
    rcases hAi i h2 with ⟨j, hj, e9⟩ | h9
    · rw [← hag j hj] at e9
      have := hI i j h2 (Nat.lt_of_lt_of_le hj hle) e9
      omega
    · exact h9
  exact W.widen (k := mc) (n := ms) hc hs (W.vret hx hb hret (fun t ht hW => ⟨⟨ad, rfl, ⟨hag, hI, hnew⟩, (ht ▸ hP : zPst h ad lay σ t.heap)⟩, hS.F ht⟩) hS.2.2 hdg)
theorem n_callgo {nL' : Nat} {p : Program} {e : Env} {R : Room} {s : State} {m : MethodId} {args : Array Value} {below : List Frame} {meth : Method} {c : Code} {Q : State → Prop} {lay1 : List zK} {mc ms : Nat} {arr : Array Value} {H : Heap} {locs : List Loc} {ls : Array Slot} (hRun : va_Run p h.1 e R s m args below meth c H locs cells slots mc ms (F0 m pc ls st) rest (zKQ h ad lay lay1 σ1 H.size arr) (zA ad lay.length H.size)) (hI : zI ad lay.length) (hAi : ∀ i, i < lay.length → A (ad i)) (hAA : ∀ q, s.heap.size ≤ q → A q) (hS : va_S A s.heap H locs)
    (kk : ∀ ad' : Nat → Nat, (∀ i, i < lay.length → ad' i = ad i) → zI ad' lay1.length → (∀ i, i < lay1.length → A (ad' i)) → ∀ (H1 : Heap) (locs1 : List Loc), zPst h ad' lay1 σ1 H1 → va_S A s.heap H1 locs1 → W p h.1 e R s m args below meth c H1 locs1 (cells + mc) (slots + ms) Q (F0 m (pc + 3) ls rest)) : W p h.1 e R s m args below meth c H locs cells slots Q (F0 m pc ls st) := by
  have hA : ∀ q, zA ad lay.length H.size q → A q := by
    rintro q (⟨k, hk, rfl⟩ | hq)
    · exact hAi k hk
    · exact hAA q (Nat.le_trans hS.1 hq)
  refine va_callv (a := arr) hRun hS (fun q _ h => hA q h) hA (fun ad' t H1 locs1 ht hvm hw hB hz hk1 hS1 => ?_)
  obtain ⟨w1, w2, w3⟩ := hw
  refine kk ad' w1 w2 (fun i hi => ?_) H1 locs1 (by rw [← ht]; exact hB) hS1
  rcases Nat.lt_or_ge i lay.length with a | a
  · rw [w1 i a]; exact hAi i a
  · exact hAA _ (Nat.le_trans hS.1 (w3 i a hi))
theorem zHS_c {A0 : Nat → Prop} {s : State} (hZ : zHS A0 s s.heap) : zHS A0 s s.heap := hZ
/-- a nest mate's constructor is called -/
theorem n_callIN (C : zCc h nL G A cc own Ts F L Cc Cs) {y : MethodName} {ws ws' : List Cond} {bytes : ByteArray} {maxL index F' L' mc ms b : Nat} {host : String} {lay1 : List zK} (n : Nat) (As rest : List Value) (hM : zKC h y ws F' L' mc ms ad (.ref b :: As) lay σ lay1 σ1) (hG : GoodIn Ts ws) (hnn : (own, index, y, host) ∈ zN) (h1 : Cond.instanceMethod y ∈ Ts) (h2 : Cond.initialized y.cls ∈ Ts) (hnm : y.name = "<init>") (hd : y.cls ≠ "java/lang/invoke/MethodHandle" ∧ y.cls ≠ "java/lang/invoke/VarHandle" ∧ (parseMethodDescriptor y.desc).map (fun d => d.parameters.length) = some n) (hst : st = As.reverse ++ .ref b :: rest) (hdg : decode cc pc = .ok (.invokespecial index, 3)) (hw : ws = Cond.code y bytes maxL none :: ws') (hR : F' + 1 ≤ F ∧ 8 + (maxL + 11) + L' ≤ L) (hn : As.length = n) (hW : (rest.map fun v => v.category).sum ≤ 8) (hcs : cells + mc ≤ Cc ∧ slots + ms ≤ Cs)
    (kk : ∀ ad' : Nat → Nat, (∀ i, i < lay.length → ad' i = ad i) → zVc h nL G A ad' lay1 σ1 (cells + mc) (slots + ms) (pc + 3) lv rest) : zVc h nL G A ad lay σ cells slots pc lv st := by
  obtain ⟨p, e, R, s, m, args, below, meth, c, Q, c0, s0⟩ := G
  obtain ⟨⟨hx, hb, hml, hown, hts⟩, hK, hAA, hF, hL, hCc, hCs, hN, hZ⟩ := C
  intro hI hAi H locs ls hP hS hl
  have hRR : F' + 1 ≤ R.frames ∧ 8 + (maxL + 11) + L' ≤ R.locals := by rw [hF, hL]; exact hR
  have hA : ∀ q, zA ad lay.length H.size q → A q := by
    rintro q (⟨k, hk, rfl⟩ | hq)
    · exact hAi k hk
    · exact hAA q (Nat.le_trans hS.1 hq)
  have hRun := va_runIN (host := host) (g := F0 m pc ls st) (rest := rest) (H := H) (cells := cells) (slots := slots) (locs := locs) (below := below) (meth := meth) (e := e) ⟨hx, hb, hml, hown, hts⟩ (hM hI H.size) ⟨va_cnB n hts hG hw rfl rfl (hN.1 _ hnn) (hts _ h2) hd hRR, hnm, hts _ h1⟩ ⟨zPre_blind, fun U hU hW9 => zPre_at2 hU hW9 hP hK hN hZ hS hA⟩ rfl hn hl.1 hst (lv_room hW) hdg ⟨by rw [hCc]; exact hcs.1, by rw [hCs]; exact hcs.2⟩
  exact n_callgo (nL' := nL) hRun hI hAi hAA hS (fun ad' e1 e2 e3 H1 locs1 hP1 hS1 => kk ad' e1 e2 e3 H1 locs1 ls hP1 hS1 hl)
/-- a constructor that is linked plainly -/
theorem n_callI (C : zCc h nL G A cc own Ts F L Cc Cs) {y : MethodName} {ws ws' : List Cond} {bytes : ByteArray} {maxL index F' L' mc ms b : Nat} {lay1 : List zK} (n : Nat) (As rest : List Value) (hM : zKC h y ws F' L' mc ms ad (.ref b :: As) lay σ lay1 σ1) (hG : GoodIn Ts ws) (h0 : Cond.methodLink own index y ∈ Ts) (h1 : Cond.instanceMethod y ∈ Ts) (h2 : Cond.initialized y.cls ∈ Ts) (hnm : y.name = "<init>") (hd : y.cls ≠ "java/lang/invoke/MethodHandle" ∧ y.cls ≠ "java/lang/invoke/VarHandle" ∧ (parseMethodDescriptor y.desc).map (fun d => d.parameters.length) = some n) (hst : st = As.reverse ++ .ref b :: rest) (hdg : decode cc pc = .ok (.invokespecial index, 3)) (hw : ws = Cond.code y bytes maxL none :: ws') (hR : F' + 1 ≤ F ∧ 8 + (maxL + 11) + L' ≤ L) (hn : As.length = n) (hW : (rest.map fun v => v.category).sum ≤ 8) (hcs : cells + mc ≤ Cc ∧ slots + ms ≤ Cs)
    (kk : ∀ ad' : Nat → Nat, (∀ i, i < lay.length → ad' i = ad i) → zVc h nL G A ad' lay1 σ1 (cells + mc) (slots + ms) (pc + 3) lv rest) : zVc h nL G A ad lay σ cells slots pc lv st := by
  obtain ⟨p, e, R, s, m, args, below, meth, c, Q, c0, s0⟩ := G
  obtain ⟨⟨hx, hb, hml, hown, hts⟩, hK, hAA, hF, hL, hCc, hCs, hN, hZ⟩ := C
  intro hI hAi H locs ls hP hS hl
  have hRR : F' + 1 ≤ R.frames ∧ 8 + (maxL + 11) + L' ≤ R.locals := by rw [hF, hL]; exact hR
  have hA : ∀ q, zA ad lay.length H.size q → A q := by
    rintro q (⟨k, hk, rfl⟩ | hq)
    · exact hAi k hk
    · exact hAA q (Nat.le_trans hS.1 hq)
  have hRun := va_runI (g := F0 m pc ls st) (rest := rest) (H := H) (cells := cells) (slots := slots) (locs := locs) (below := below) (meth := meth) (e := e) ⟨hx, hb, hml, hown, hts⟩ (hM hI H.size) (cwI n hts hG hw rfl rfl (hts _ h2) (hts _ h0) (hts _ h1) hnm hd hRR) ⟨zPre_blind, fun U hU hW9 => zPre_at2 hU hW9 hP hK hN hZ hS hA⟩ rfl hn hl.1 hst (lv_room hW) hdg ⟨by rw [hCc]; exact hcs.1, by rw [hCs]; exact hcs.2⟩
  exact n_callgo (nL' := nL) hRun hI hAi hAA hS (fun ad' e1 e2 e3 H1 locs1 hP1 hS1 => kk ad' e1 e2 e3 H1 locs1 ls hP1 hS1 hl)
/-- a method of an object of the world is called, which makes nothing -/
theorem n_callV (C : zCc h nL G A cc own Ts F L Cc Cs) {y : MethodName} {ws ws' : List Cond} {bytes : ByteArray} {maxL : Nat} {ret : Option FieldType} {index F' L' b : Nat} {r : Int32} (n : Nat) (As : List Value) (rest : List Value) {Cn : String} {k ci : Nat} {fs : List Nat} {q : vw_C} (hM : zI ad lay.length → zMR h ad lay false y ws F' L' (.ref (ad k) :: As) σ (.inl r) σ1) (hT : GoodIn Ts (wsV own index Cn y ws)) (hd : y.cls = Cn ∧ y.cls ≠ "java/lang/invoke/MethodHandle" ∧ y.cls ≠ "java/lang/invoke/VarHandle" ∧ (parseMethodDescriptor y.desc).map (fun d => d.parameters.length) = some n) (hk : lay[k]? = some (.inr (ci, fs))) (hc : vwCl[ci]? = some q) (hq : q.1 = Cn) (hb9 : ad k = b) (hst : st = As.reverse ++ .ref b :: rest) (hdg : decode cc pc = .ok (.invokevirtual index, 3)) (hw : ws = Cond.code y bytes maxL ret :: ws') (hR : F' + 1 ≤ F ∧ 8 + (maxL + 11) + L' ≤ L) (hn : As.length = n) (hW : (rest.map fun v => v.category).sum ≤ 8) (hcs : cells ≤ Cc ∧ slots ≤ Cs)
    (kk : zVc h nL G A ad lay σ1 cells slots (pc + 3) lv (.int r :: rest)) : zVc h nL G A ad lay σ cells slots pc lv st := by
  obtain ⟨p, e, R, s, m, args, below, meth, c, Q, c0, s0⟩ := G
  obtain ⟨⟨hx, hb, hml, hown, hts⟩, hK, hAA, hF, hL, hCc, hCs, hN, hZ⟩ := C
  subst hb9
  intro hI hAi H locs ls hP hS hl
  have hRR : F' + 1 ≤ R.frames ∧ 8 + (maxL + 11) + L' ≤ R.locals := by rw [hF, hL]; exact hR
  have hA : ∀ q, zA ad lay.length H.size q → A q := by
    rintro q (⟨k, hk, rfl⟩ | hq)
    · exact hAi k hk
    · exact hAA q (Nat.le_trans hS.1 hq)
  have hRun := va_runV (g := F0 m pc ls st) (rest := rest) (H := H) (cells := cells) (slots := slots) (locs := locs) (below := below) (meth := meth) (e := e) ⟨hx, hb, hml, hown, hts⟩ (hM hI H.size) (cwV n hts hT hw rfl rfl hd hRR) ⟨zPre_blind, hq ▸ va_recv hK hP hc (zW_at hk), fun U hU hW9 => zPre_at2 hU hW9 hP hK hN hZ hS hA⟩ rfl hn hl.1 hst (lv_room hW) hdg ⟨by rw [hCc]; exact hcs.1, by rw [hCs]; exact hcs.2⟩
  exact va_calli (a := #[]) hRun hS (fun q _ h => hA q h) hA (fun r9 u t H1 locs1 ht hvm hw hB hz hk1 hS1 => by subst hw; exact kk hI hAi H1 locs1 ls (by rw [← ht]; exact hB) hS1 hl)
/-- the list and the layout in other words -/
theorem n_show {l l9 : List Nat} {lay9 : List zK} (h1 : l9 = l) (h2 : lay = lay9) (k : zVc h nL G A (zAd l) lay9 σ cells slots pc lv st) : zVc h nL G A (zAd l9) lay σ cells slots pc lv st := by
  subst h1; subst h2; exact k
theorem zQk_n {lay1 : List zK} {mc ms : Nat} (hQ : zQk h ad0 lay0 lay1 σ1 mc ms G A) : G.2.2.2.2.2.2.2.1.name = "<init>" := by
  obtain ⟨p, e, R, s, m, args, below, meth, c, Q, c0, s0⟩ := G
  exact hQ.2.2.2.1
def zCut (n : Nat) (σ : zS) : zS := fun k => if k < n then σ k else fun _ => 0
theorem zCut_o {n k : Nat} {σ : zS} (hk : n ≤ k) : zCut n σ k = fun _ => 0 := by unfold zCut; rw [if_neg (Nat.not_lt.mpr hk)]
/-- numbers of cells that there are not (yet) are free -/
theorem n_sig (ha : ∀ r, r < lay.length → σ' r = σ r) (k : zVc h nL G A ad lay σ' cells slots pc lv st) : zVc h nL G A ad lay σ cells slots pc lv st := by
  obtain ⟨p, e, R, s, m, args, below, meth, c, Q, c0, s0⟩ := G
  intro hI hAi H locs ls hP hS hl
  refine k hI hAi H locs ls (fun k q hq => ?_) hS hl
  obtain ⟨kd, hk, rfl⟩ := zW_is hq
  have h3 := hP k _ (zW_at hk)
  rw [ha k (List.getElem?_eq_some_iff.mp hk).1]
  exact h3
end ZCN
