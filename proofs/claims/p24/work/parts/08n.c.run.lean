section PE2
/-! runs of calls: what each answers, and the states between -/
def zNl (x : Option (Int32 × zS)) : Option ((Int32 ⊕ Nat) × zS) := match x with
  | some (v, s) => some (.inl v, s)
  | none => none
theorem zNl_of {x : Option (Int32 × zS)} {v : Int32} {s : zS} (h : zNl x = some (.inl v, s)) : x = some (v, s) := by
  unfold zNl at h
  split at h
  · cases h; rfl
  · cases h
def zRun : List ((zS → Option ((Int32 ⊕ Nat) × zS)) × (Int32 ⊕ Nat)) → zS → zS → Prop
  | [], s, t => s = t
  | q :: r, s, t => ∃ u, q.1 s = some (q.2, u) ∧ zRun r u t
def eNl (x : Option (Nat × Nat)) : Option ((Nat ⊕ Nat) × Nat) := match x with
  | some (v, s) => some (.inl v, s)
  | none => none
def eRe : Nat ⊕ Nat → Nat ⊕ Nat → Bool
  | .inl a, .inl b => Nat.beq a b
  | .inr a, .inr b => Nat.beq a b
  | _, _ => false
theorem eRe_of {a b : Nat ⊕ Nat} (h : eRe a b = true) : a = b := by
  cases a with
  | inl x => cases b with
    | inl y => rw [Nat.eq_of_beq_eq_true (show Nat.beq x y = true from h)]
    | inr y => cases h
  | inr x => cases b with
    | inl y => cases h
    | inr y => rw [Nat.eq_of_beq_eq_true (show Nat.beq x y = true from h)]
def eRun : List ((Nat → Option ((Nat ⊕ Nat) × Nat)) × (Nat ⊕ Nat)) → Nat → Option Nat
  | [], S => some S
  | q :: r, S => match q.1 S with
    | some (a, T) => cond (eRe a q.2) (eRun r T) none
    | none => none
theorem sNl {x : Option (Int32 × zS)} {y : Option (Nat × Nat)} (h : eSim nI x y) : eSim cR (zNl x) (eNl y) := by
  intro r S e
  cases y with
  | none => cases e
  | some q =>
    obtain ⟨a, T⟩ := q
    cases e
    rw [h a S rfl]; rfl
def zSims : List ((zS → Option ((Int32 ⊕ Nat) × zS)) × (Int32 ⊕ Nat)) → List ((Nat → Option ((Nat ⊕ Nat) × Nat)) × (Nat ⊕ Nat)) → Prop
  | [], [] => True
  | q :: r, p :: t => (∀ S, eSim cR (q.1 (cS S)) (p.1 S)) ∧ q.2 = cR p.2 ∧ zSims r t
  | _, _ => False
theorem zSc {f : zS → Option ((Int32 ⊕ Nat) × zS)} {r : Int32 ⊕ Nat} {t : List ((zS → Option ((Int32 ⊕ Nat) × zS)) × (Int32 ⊕ Nat))} {g : Nat → Option ((Nat ⊕ Nat) × Nat)} {r' : Nat ⊕ Nat} {t' : List ((Nat → Option ((Nat ⊕ Nat) × Nat)) × (Nat ⊕ Nat))} (h1 : ∀ S, eSim cR (f (cS S)) (g S)) (h2 : r = cR r') (h3 : zSims t t') : zSims ((f, r) :: t) ((g, r') :: t') := ⟨h1, h2, h3⟩
theorem run_sim : ∀ {a : List ((zS → Option ((Int32 ⊕ Nat) × zS)) × (Int32 ⊕ Nat))} {b : List ((Nat → Option ((Nat ⊕ Nat) × Nat)) × (Nat ⊕ Nat))} {S T : Nat}, zSims a b → eRun b S = some T → zRun a (cS S) (cS T)
  | [], [], S, T, _, h => by cases h; rfl
  | [], _ :: _, _, _, h, _ => h.elim
  | _ :: _, [], _, _, h, _ => h.elim
  | q :: r, p :: t, S, T, ⟨h1, h2, h3⟩, h => by
    unfold eRun at h
    cases e : p.1 S with
    | none => rw [e] at h; cases h
    | some w =>
      obtain ⟨a, U⟩ := w
      rw [e] at h
      cases g : eRe a p.2 with
      | false => simp only [g, cond_false] at h; cases h
      | true =>
        simp only [g, cond_true] at h
        refine ⟨cS U, ?_, run_sim h3 h⟩
        rw [h1 S a U e, h2, eRe_of g]
theorem eRun_app : ∀ {a b : List ((Nat → Option ((Nat ⊕ Nat) × Nat)) × (Nat ⊕ Nat))} {S T : Nat}, eRun (a ++ b) S = some T → ∃ U, eRun a S = some U ∧ eRun b U = some T
  | [], b, S, T, h => ⟨S, rfl, h⟩
  | p :: t, b, S, T, h => by
    rw [List.cons_append] at h
    unfold eRun at h
    cases e : p.1 S with
    | none => rw [e] at h; cases h
    | some w =>
      obtain ⟨a, U⟩ := w
      rw [e] at h
      cases g : eRe a p.2 with
      | false => simp only [g, cond_false] at h; cases h
      | true =>
        simp only [g, cond_true] at h
        obtain ⟨V, v1, v2⟩ := eRun_app h
        refine ⟨V, ?_, v2⟩
        unfold eRun
        rw [e]
        simp only [g, cond_true]
        exact v1
theorem zRun_app : ∀ {a b : List ((zS → Option ((Int32 ⊕ Nat) × zS)) × (Int32 ⊕ Nat))} {s t u : zS}, zRun a s t → zRun b t u → zRun (a ++ b) s u
  | [], b, s, t, u, h1, h2 => by cases h1; exact h2
  | q :: r, b, s, t, u, ⟨w, e, h1⟩, h2 => ⟨w, e, zRun_app h1 h2⟩
/-- what a refused call needs of a state: line 15 is an INPUT, the year, and not too many amounts and credits -/
def zRI (s : zS) (y : Int32) : Prop := s 2 15 = 0 ∧ s 13 3 = y ∧ s 13 2 ≤ 8 ∧ s 16 4 ≤ 5
def zRIs (y : Int32) (s : zS) : Option ((Int32 ⊕ Nat) × zS) := if s 2 15 = 0 then (if s 13 3 = y then (if s 13 2 ≤ 8 then (if s 16 4 ≤ 5 then zRx 0 s else none) else none) else none) else none
theorem zRIs_of {y : Int32} {s t : zS} {r : Int32 ⊕ Nat} (h : zRIs y s = some (r, t)) : zRI s y ∧ t = s := by
  unfold zRIs at h
  by_cases h1 : s 2 15 = 0
  · rw [if_pos h1] at h
    by_cases h2 : s 13 3 = y
    · rw [if_pos h2] at h
      by_cases h3 : s 13 2 ≤ 8
      · rw [if_pos h3] at h
        by_cases h4 : s 16 4 ≤ 5
        · rw [if_pos h4] at h
          cases h
          exact ⟨⟨h1, h2, h3, h4⟩, rfl⟩
        · rw [if_neg h4] at h; cases h
      · rw [if_neg h3] at h; cases h
    · rw [if_neg h2] at h; cases h
  · rw [if_neg h1] at h; cases h
def eRIs (y S : Nat) : Option ((Nat ⊕ Nat) × Nat) := cond (eEq (eGet S 2 15) 0) (cond (eEq (eGet S 13 3) y) (cond (eLe (eGet S 13 2) 8) (cond (eLe (eGet S 16 4) 5) (eRx 0 S) none) none) none) none
theorem sRIs (y S : Nat) : eSim cR (zRIs (nI y) (cS S)) (eRIs y S) := sIf (hEq (hGet rfl (by decide)) rfl) (sIf (hEq (hGet rfl (by decide)) rfl) (sIf (hLe (hGet rfl (by decide)) rfl) (sIf (hLe (hGet rfl (by decide)) rfl) (sRx rfl rfl) sNo) sNo) sNo) sNo
/-! the calls as steps of a run -/
def k_define (v0 : Int32) (v1 : Int32) (v2 : Int32) (v3 : Int32) : zS → Option ((Int32 ⊕ Nat) × zS) := fun s => m_X7_define 130 v0 v1 v2 v3 s
def g_define (a0 : Nat) (a1 : Nat) (a2 : Nat) (a3 : Nat) : Nat → Option ((Nat ⊕ Nat) × Nat) := fun S => e_X7_define 130 a0 a1 a2 a3 S
theorem h_define {v0 : Int32} {v1 : Int32} {v2 : Int32} {v3 : Int32} (a0 : Nat) (a1 : Nat) (a2 : Nat) (a3 : Nat) (h0 : v0 = nI a0) (h1 : v1 = nI a1) (h2 : v2 = nI a2) (h3 : v3 = nI a3) : ∀ S, eSim cR (k_define v0 v1 v2 v3 (cS S)) (g_define a0 a1 a2 a3 S) := by
  subst h0; subst h1; subst h2; subst h3; intro S
  exact s_X7_define 130 a0 a1 a2 a3 S
def k_answer (v0 : Int32) (v1 : Int32) : zS → Option ((Int32 ⊕ Nat) × zS) := fun s => m_X7_answer 130 v0 v1 s
def g_answer (a0 : Nat) (a1 : Nat) : Nat → Option ((Nat ⊕ Nat) × Nat) := fun S => e_X7_answer 130 a0 a1 S
theorem h_answer {v0 : Int32} {v1 : Int32} (a0 : Nat) (a1 : Nat) (h0 : v0 = nI a0) (h1 : v1 = nI a1) : ∀ S, eSim cR (k_answer v0 v1 (cS S)) (g_answer a0 a1 S) := by
  subst h0; subst h1; intro S
  exact s_X7_answer 130 a0 a1 S
def k_kindOf (v0 : Int32) : zS → Option ((Int32 ⊕ Nat) × zS) := fun s => m_X7_kindOf 130 v0 s
def g_kindOf (a0 : Nat) : Nat → Option ((Nat ⊕ Nat) × Nat) := fun S => e_X7_kindOf 130 a0 S
theorem h_kindOf {v0 : Int32} (a0 : Nat) (h0 : v0 = nI a0) : ∀ S, eSim cR (k_kindOf v0 (cS S)) (g_kindOf a0 S) := by
  subst h0; intro S
  exact s_X7_kindOf 130 a0 S
def k_value (v0 : Int32) : zS → Option ((Int32 ⊕ Nat) × zS) := fun s => m_X7_value 130 v0 s
def g_value (a0 : Nat) : Nat → Option ((Nat ⊕ Nat) × Nat) := fun S => e_X7_value 130 a0 S
theorem h_value {v0 : Int32} (a0 : Nat) (h0 : v0 = nI a0) : ∀ S, eSim cR (k_value v0 (cS S)) (g_value a0 S) := by
  subst h0; intro S
  exact s_X7_value 130 a0 S
def k_boundFor (v0 : Int32) (v1 : Int32) : zS → Option ((Int32 ⊕ Nat) × zS) := fun s => m_X7_boundFor 130 v0 v1 s
def g_boundFor (a0 : Nat) (a1 : Nat) : Nat → Option ((Nat ⊕ Nat) × Nat) := fun S => e_X7_boundFor 130 a0 a1 S
theorem h_boundFor {v0 : Int32} {v1 : Int32} (a0 : Nat) (a1 : Nat) (h0 : v0 = nI a0) (h1 : v1 = nI a1) : ∀ S, eSim cR (k_boundFor v0 v1 (cS S)) (g_boundFor a0 a1 S) := by
  subst h0; subst h1; intro S
  exact s_X7_boundFor 130 a0 a1 S
def k_dependsOn (v0 : Int32) (v1 : Int32) : zS → Option ((Int32 ⊕ Nat) × zS) := fun s => m_X7_dependsOn 130 v0 v1 s
def g_dependsOn (a0 : Nat) (a1 : Nat) : Nat → Option ((Nat ⊕ Nat) × Nat) := fun S => e_X7_dependsOn 130 a0 a1 S
theorem h_dependsOn {v0 : Int32} {v1 : Int32} (a0 : Nat) (a1 : Nat) (h0 : v0 = nI a0) (h1 : v1 = nI a1) : ∀ S, eSim cR (k_dependsOn v0 v1 (cS S)) (g_dependsOn a0 a1 S) := by
  subst h0; subst h1; intro S
  exact s_X7_dependsOn 130 a0 a1 S
def k_influence (v0 : Int32) : zS → Option ((Int32 ⊕ Nat) × zS) := fun s => m_X7_influence 130 v0 s
def g_influence (a0 : Nat) : Nat → Option ((Nat ⊕ Nat) × Nat) := fun S => e_X7_influence 130 a0 S
theorem h_influence {v0 : Int32} (a0 : Nat) (h0 : v0 = nI a0) : ∀ S, eSim cR (k_influence v0 (cS S)) (g_influence a0 S) := by
  subst h0; intro S
  exact s_X7_influence 130 a0 S
def k_why (v0 : Int32) (v1 : Int32) : zS → Option ((Int32 ⊕ Nat) × zS) := fun s => m_X7_why 130 v0 v1 s
def g_why (a0 : Nat) (a1 : Nat) : Nat → Option ((Nat ⊕ Nat) × Nat) := fun S => e_X7_why 130 a0 a1 S
theorem h_why {v0 : Int32} {v1 : Int32} (a0 : Nat) (a1 : Nat) (h0 : v0 = nI a0) (h1 : v1 = nI a1) : ∀ S, eSim cR (k_why v0 v1 (cS S)) (g_why a0 a1 S) := by
  subst h0; subst h1; intro S
  exact s_X7_why 130 a0 a1 S
def k_bracket (v0 : Int32) (v1 : Int32) : zS → Option ((Int32 ⊕ Nat) × zS) := fun s => m_X7_bracket 130 v0 v1 s
def g_bracket (a0 : Nat) (a1 : Nat) : Nat → Option ((Nat ⊕ Nat) × Nat) := fun S => e_X7_bracket 130 a0 a1 S
theorem h_bracket {v0 : Int32} {v1 : Int32} (a0 : Nat) (a1 : Nat) (h0 : v0 = nI a0) (h1 : v1 = nI a1) : ∀ S, eSim cR (k_bracket v0 v1 (cS S)) (g_bracket a0 a1 S) := by
  subst h0; subst h1; intro S
  exact s_X7_bracket 130 a0 a1 S
def k_dropBrackets : zS → Option ((Int32 ⊕ Nat) × zS) := fun s => zNl (m_X7_dropBrackets 130 s)
def g_dropBrackets : Nat → Option ((Nat ⊕ Nat) × Nat) := fun S => eNl (e_X7_dropBrackets 130 S)
theorem h_dropBrackets : ∀ S, eSim cR (k_dropBrackets (cS S)) (g_dropBrackets S) := by
  intro S
  exact sNl (s_X7_dropBrackets 130 S)
def k_taxOn (v0 : Int32) : zS → Option ((Int32 ⊕ Nat) × zS) := fun s => m_X7_taxOn 130 v0 s
def g_taxOn (a0 : Nat) : Nat → Option ((Nat ⊕ Nat) × Nat) := fun S => e_X7_taxOn 130 a0 S
theorem h_taxOn {v0 : Int32} (a0 : Nat) (h0 : v0 = nI a0) : ∀ S, eSim cR (k_taxOn v0 (cS S)) (g_taxOn a0 S) := by
  subst h0; intro S
  exact s_X7_taxOn 130 a0 S
def k_carry (v0 : Int32) (v1 : Int32) : zS → Option ((Int32 ⊕ Nat) × zS) := fun s => m_X7_carry 130 v0 v1 s
def g_carry (a0 : Nat) (a1 : Nat) : Nat → Option ((Nat ⊕ Nat) × Nat) := fun S => e_X7_carry 130 a0 a1 S
theorem h_carry {v0 : Int32} {v1 : Int32} (a0 : Nat) (a1 : Nat) (h0 : v0 = nI a0) (h1 : v1 = nI a1) : ∀ S, eSim cR (k_carry v0 v1 (cS S)) (g_carry a0 a1 S) := by
  subst h0; subst h1; intro S
  exact s_X7_carry 130 a0 a1 S
def k_carried : zS → Option ((Int32 ⊕ Nat) × zS) := fun s => zNl (m_X7_carried 130 s)
def g_carried : Nat → Option ((Nat ⊕ Nat) × Nat) := fun S => eNl (e_X7_carried 130 S)
theorem h_carried : ∀ S, eSim cR (k_carried (cS S)) (g_carried S) := by
  intro S
  exact sNl (s_X7_carried 130 S)
def k_carriedAt (v0 : Int32) : zS → Option ((Int32 ⊕ Nat) × zS) := fun s => m_X7_carriedAt 130 v0 s
def g_carriedAt (a0 : Nat) : Nat → Option ((Nat ⊕ Nat) × Nat) := fun S => e_X7_carriedAt 130 a0 S
theorem h_carriedAt {v0 : Int32} (a0 : Nat) (h0 : v0 = nI a0) : ∀ S, eSim cR (k_carriedAt v0 (cS S)) (g_carriedAt a0 S) := by
  subst h0; intro S
  exact s_X7_carriedAt 130 a0 S
def k_year : zS → Option ((Int32 ⊕ Nat) × zS) := fun s => zNl (m_X7_year 130 s)
def g_year : Nat → Option ((Nat ⊕ Nat) × Nat) := fun S => eNl (e_X7_year 130 S)
theorem h_year : ∀ S, eSim cR (k_year (cS S)) (g_year S) := by
  intro S
  exact sNl (s_X7_year 130 S)
def k_closeYear : zS → Option ((Int32 ⊕ Nat) × zS) := fun s => zNl (m_X7_closeYear 130 s)
def g_closeYear : Nat → Option ((Nat ⊕ Nat) × Nat) := fun S => eNl (e_X7_closeYear 130 S)
theorem h_closeYear : ∀ S, eSim cR (k_closeYear (cS S)) (g_closeYear S) := by
  intro S
  exact sNl (s_X7_closeYear 130 S)
def k_addCredit (v0 : Int32) (v1 : Int32) : zS → Option ((Int32 ⊕ Nat) × zS) := fun s => m_X7_addCredit 130 v0 v1 s
def g_addCredit (a0 : Nat) (a1 : Nat) : Nat → Option ((Nat ⊕ Nat) × Nat) := fun S => e_X7_addCredit 130 a0 a1 S
theorem h_addCredit {v0 : Int32} {v1 : Int32} (a0 : Nat) (a1 : Nat) (h0 : v0 = nI a0) (h1 : v1 = nI a1) : ∀ S, eSim cR (k_addCredit v0 v1 (cS S)) (g_addCredit a0 a1 S) := by
  subst h0; subst h1; intro S
  exact s_X7_addCredit 130 a0 a1 S
def k_dropCredit : zS → Option ((Int32 ⊕ Nat) × zS) := fun s => m_X7_dropCredit 130 s
def g_dropCredit : Nat → Option ((Nat ⊕ Nat) × Nat) := fun S => e_X7_dropCredit 130 S
theorem h_dropCredit : ∀ S, eSim cR (k_dropCredit (cS S)) (g_dropCredit S) := by
  intro S
  exact s_X7_dropCredit 130 S
def k_creditAt (v0 : Int32) (v1 : Int32) : zS → Option ((Int32 ⊕ Nat) × zS) := fun s => m_X7_creditAt 130 v0 v1 s
def g_creditAt (a0 : Nat) (a1 : Nat) : Nat → Option ((Nat ⊕ Nat) × Nat) := fun S => e_X7_creditAt 130 a0 a1 S
theorem h_creditAt {v0 : Int32} {v1 : Int32} (a0 : Nat) (a1 : Nat) (h0 : v0 = nI a0) (h1 : v1 = nI a1) : ∀ S, eSim cR (k_creditAt v0 v1 (cS S)) (g_creditAt a0 a1 S) := by
  subst h0; subst h1; intro S
  exact s_X7_creditAt 130 a0 a1 S
def k_afterCredits (v0 : Int32) : zS → Option ((Int32 ⊕ Nat) × zS) := fun s => m_X7_afterCredits 130 v0 s
def g_afterCredits (a0 : Nat) : Nat → Option ((Nat ⊕ Nat) × Nat) := fun S => e_X7_afterCredits 130 a0 S
theorem h_afterCredits {v0 : Int32} (a0 : Nat) (h0 : v0 = nI a0) : ∀ S, eSim cR (k_afterCredits v0 (cS S)) (g_afterCredits a0 S) := by
  subst h0; intro S
  exact s_X7_afterCredits 130 a0 S
def k_bestSum (v0 : Int32) : zS → Option ((Int32 ⊕ Nat) × zS) := fun s => m_X7_bestSum 130 v0 s
def g_bestSum (a0 : Nat) : Nat → Option ((Nat ⊕ Nat) × Nat) := fun S => e_X7_bestSum 130 a0 S
theorem h_bestSum {v0 : Int32} (a0 : Nat) (h0 : v0 = nI a0) : ∀ S, eSim cR (k_bestSum v0 (cS S)) (g_bestSum a0 S) := by
  subst h0; intro S
  exact s_X7_bestSum 130 a0 S
/-- what 'refuses' answers true on -/
def zRef (y c v : Int32) : List ((zS → Option ((Int32 ⊕ Nat) × zS)) × (Int32 ⊕ Nat)) := [(k_year, .inl y), (k_carried, .inl c), (k_value 15, .inl v), (zRIs y, .inl 0), (k_year, .inl y), (k_carried, .inl c), (k_value 15, .inl v), (k_kindOf 15, .inl 0)]
def eRef (y c v : Nat) : List ((Nat → Option ((Nat ⊕ Nat) × Nat)) × (Nat ⊕ Nat)) := [(g_year, .inl y), (g_carried, .inl c), (g_value 15, .inl v), (eRIs y, .inl 0), (g_year, .inl y), (g_carried, .inl c), (g_value 15, .inl v), (g_kindOf 15, .inl 0)]
set_option maxRecDepth 4000 in
theorem sRef {y' c' v' : Int32} (y c v : Nat) (h1 : y' = nI y) (h2 : c' = nI c) (h3 : v' = nI v) : zSims (zRef y' c' v') (eRef y c v) := by
  subst h1; subst h2; subst h3
  exact zSc h_year rfl (zSc h_carried rfl (zSc (h_value 15 rfl) rfl (zSc (fun S => sRIs y S) rfl (zSc h_year rfl (zSc h_carried rfl (zSc (h_value 15 rfl) rfl (zSc (h_kindOf 15 rfl) rfl trivial)))))))
theorem zSims_app : ∀ {a : List ((zS → Option ((Int32 ⊕ Nat) × zS)) × (Int32 ⊕ Nat))} {b : List ((Nat → Option ((Nat ⊕ Nat) × Nat)) × (Nat ⊕ Nat))} {c : List ((zS → Option ((Int32 ⊕ Nat) × zS)) × (Int32 ⊕ Nat))} {d : List ((Nat → Option ((Nat ⊕ Nat) × Nat)) × (Nat ⊕ Nat))}, zSims a b → zSims c d → zSims (a ++ c) (b ++ d)
  | [], [], _, _, _, h => h
  | [], _ :: _, _, _, h, _ => h.elim
  | _ :: _, [], _, _, h, _ => h.elim
  | _ :: _, _ :: _, _, _, ⟨h1, h2, h3⟩, h => ⟨h1, h2, zSims_app h3 h⟩
end PE2
