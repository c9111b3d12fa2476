section PLg
/-! the law's cases, once for all -/
def hG (ks : List (Nat × Int32)) (s : zS) (k : Nat) (s2 : zS) : Option (Int32 × zS) := match ks with
  | [] => none
  | q :: r => if k = q.1 then zRt q.2 (zMix 0 27 s s2) else hG r s k s2
def zCall (y : Nat) (ks : List (Nat × Int32)) (rx : Option ((Int32 ⊕ Nat) × zS)) (rm : Option (Int32 × zS)) : Prop := (∃ v x' m', rx = some (.inl v, x') ∧ rm = some (v, m') ∧ m' 0 23 = 0 ∧ zInv y x' m') ∨ ∃ k b w x' m', (∀ s s2, hG ks s k s2 = zRt b (zMix 0 27 s s2)) ∧ b ≠ 0 ∧ rx = some (.inr k, x') ∧ rm = some (w, m') ∧ m' 0 23 = b ∧ zInv y x' m'
def zJ (y : Nat) (s : zS) : Prop := zInv y (zSo s 0) (zSo s 27)
theorem zInv_e {y : Nat} {x m x' m' : zS} (h : zInv y x m) (hx : ∀ c, c < 27 → x' c = x c) (hm : ∀ c, c < 19 → m' c = m c) : zInv y x' m' := zInv_c h (fun c _ _ c3 => hx c (by omega)) (zI6_c h.2.2.2.2.2.1 (hx 22 (by decide)) (hx 24 (by decide))) (fun c _ c2 => hm c (by omega)) (hm 18 (by decide)) (fun j _ _ => by rw [hm 0 (by decide)]) (zI7_c h.2.2.2.2.2.2 (hm 11 (by decide)) (hm 12 (by decide)))
theorem zMix_so {o n : Nat} {σ : zS} : zMix o n σ (zSo σ o) = σ := by
  funext k
  unfold zMix zSo
  by_cases q : o ≤ k ∧ k < o + n
  · rw [if_pos q, show k - o + o = k by omega]
  · rw [if_neg q]
theorem zMx_x {s t : zS} {c : Nat} (h : c < 27) : zSo (zMix 0 27 s t) 0 c = t c := by
  show (if 0 ≤ c + 0 ∧ c + 0 < 0 + 27 then t (c + 0 - 0) else s (c + 0)) = t c
  rw [if_pos (by omega)]; rfl
theorem zMx_m {s t : zS} {c : Nat} : zSo (zMix 0 27 s t) 27 c = zSo s 27 c := by
  show (if 0 ≤ c + 27 ∧ c + 27 < 0 + 27 then t (c + 27 - 0) else s (c + 27)) = s (c + 27)
  rw [if_neg (by omega)]
theorem zMm_m {s t : zS} {c : Nat} (h : c < 19) : zSo (zMix 27 19 s t) 27 c = t c := by
  show (if 27 ≤ c + 27 ∧ c + 27 < 27 + 19 then t (c + 27 - 27) else s (c + 27)) = t c
  rw [if_pos (by omega), show c + 27 - 27 = c by omega]
theorem zMm_x {s t : zS} {c : Nat} (h : c < 27) : zSo (zMix 27 19 s t) 0 c = zSo s 0 c := by
  show (if 27 ≤ c + 0 ∧ c + 0 < 27 + 19 then t (c + 0 - 27) else s (c + 0)) = s (c + 0)
  rw [if_neg (by omega)]
theorem zMm_46 {s t : zS} : zMix 27 19 s t 46 = s 46 := by
  unfold zMix
  rw [if_neg (by omega)]
theorem zSo_u {s : zS} {o c j : Nat} {v : Int32} (h : c + o ≠ 46) : zSo (zU s 46 j v) o c = zSo s o c := by
  unfold zSo
  rw [zU_ne h]
theorem zHx_l {β : Type} {v : Int32} {s : zS} {g : Nat → zS → Option β} {f : Int32 → zS → Option β} : zHx (some (.inl v, s)) g f = f v s := rfl
theorem zHx_r {β : Type} {k : Nat} {s : zS} {g : Nat → zS → Option β} {f : Int32 → zS → Option β} : zHx (some (.inr k, s)) g f = g k s := rfl
theorem zWr_0 {β : Type} {σ : zS} {k : Nat} {v : Int32} {f : zS → Option β} : zWr σ k (0 : Int32) 1 v f = f (zU σ k 0 v) := zWr_n (j := 0) (by decide) (by decide)
theorem zRd_0 {β : Type} {g : Nat → Int32} {f : Int32 → Option β} : zRd g (0 : Int32) 1 f = f (g 0) := zRd_n (j := 0) (by decide) (by decide)
theorem lg_same (v : Int64) : lg_cmp v v = 0 := by
  unfold lg_cmp
  rw [if_neg (show ¬ v > v from Int64.lt_irrefl), if_pos rfl]
theorem q_thrown {n : Nat} {s : zS} : m_X8_thrown n s = some (s 0 23, s) := rfl
theorem zThr {s t : zS} : zSo (zMix 27 19 s t) 27 0 23 = t 0 23 := by rw [zMm_m (by decide)]
theorem zJ_m {y : Nat} {s t x : zS} (h : zInv y x t) (hx : ∀ c, c < 27 → zSo s 0 c = x c) : zJ y (zMix 27 19 s t) := zInv_e h (fun c hc => by rw [zMm_x hc]; exact hx c hc) (fun c hc => zMm_m hc)
theorem L_val {n y y' : Nat} {ks : List (Nat × Int32)} {rx : zS → Option ((Int32 ⊕ Nat) × zS)} {rm : zS → Option (Int32 × zS)} (C : ∀ x m, zInv y x m → zCall y' ks (rx x) (rm m)) {s : zS} (h : zJ y s) (rec : Int32 → zS → Option (Int32 × zS)) (v4 : Int32) : ∃ s', (zBd (zHx (rx (zSo s 0)) (hG ks s) fun x1 s2 => zLt (zMix 0 27 s s2) fun s3 => zWr s3 46 (0 : Int32) 1 x1 fun s4 => zRt (0 : Int32) s4) fun x26 s27 => zBd (rm (zSo s27 27)) fun x30 s31 => zLt (zMix 27 19 s27 s31) fun s32 => zBd (m_X8_thrown n (zSo s32 27)) fun x33 s34 => zLt (zMix 27 19 s32 s34) fun s35 => if x33 = x26 then (if x26 = 0 then (zRd (s35 46) (0 : Int32) 1 fun x39 => if (lg_cmp (Int32.toInt64 x39) (Int32.toInt64 x30)) = 0 then (zLt (v4 + (5 : Int32)) fun x41 => rec x41 s35) else (zRt (0 : Int32) s35)) else (zLt (v4 + (5 : Int32)) fun x38 => rec x38 s35)) else (zRt (0 : Int32) s35)) = rec (v4 + (5 : Int32)) s' ∧ zJ y' s' := by
  rcases C _ _ h with ⟨v, x', m', e1, -, -, -⟩ | ⟨k, b, w, x', m', hk, hb, e1, -, -, -⟩
  · have a1 : ∀ c, c < 27 → zSo (zU (zMix 0 27 s x') 46 0 v) 0 c = x' c := fun c hc => by rw [zSo_u (by omega), zMx_x hc]
    have a2 : ∀ c, c < 19 → zSo (zU (zMix 0 27 s x') 46 0 v) 27 c = zSo s 27 c := fun c hc => by rw [zSo_u (by omega), zMx_m]
    rw [e1, zHx_l, zLt_e, zWr_0, zBd_r]
    rcases C _ _ (zInv_e h (fun c _ => rfl) a2) with ⟨v1, x1, m1, f1, f2, f3, f4⟩ | ⟨k1, b1, w1, x1, m1, _, _, f1, _, _, _⟩
    · rw [e1] at f1
      cases f1
      rw [f2, zBd_e, zLt_e, q_thrown, zBd_e, zLt_e, zMix_so, zThr, if_pos f3, if_pos rfl, zMm_46, zRd_0, zU_eq, lg_same, if_pos rfl, zLt_e]
      exact ⟨_, rfl, zJ_m f4 a1⟩
    · rw [e1] at f1
      cases f1
  · have a1 : ∀ c, c < 27 → zSo (zMix 0 27 s x') 0 c = x' c := fun c hc => zMx_x hc
    have a2 : ∀ c, c < 19 → zSo (zMix 0 27 s x') 27 c = zSo s 27 c := fun c hc => zMx_m
    rw [e1, zHx_r, hk, zBd_r]
    rcases C _ _ (zInv_e h (fun c _ => rfl) a2) with ⟨v1, x1, m1, f1, f2, f3, f4⟩ | ⟨k1, b1, w1, x1, m1, g1, g2, f1, f2, f3, f4⟩
    · rw [e1] at f1
      cases f1
    · rw [e1] at f1
      cases f1
      have hbb : b1 = b := by
        have := (g1 s x').symm.trans (hk s x')
        exact congrArg (fun q => match q with | some (a, _) => a | none => 0) this
      rw [f2, zBd_e, zLt_e, q_thrown, zBd_e, zLt_e, zMix_so, zThr, if_pos (f3.trans hbb), if_neg hb, zLt_e]
      exact ⟨_, rfl, zJ_m f4 a1⟩
theorem L_void {n y y' : Nat} {ks : List (Nat × Int32)} {rx : zS → Option ((Int32 ⊕ Nat) × zS)} {rm : zS → Option (Int32 × zS)} (C : ∀ x m, zInv y x m → zCall y' ks (rx x) (rm m)) {s : zS} (h : zJ y s) (rec : Int32 → zS → Option (Int32 × zS)) (v4 : Int32) : ∃ s', (zBd (zHx (rx (zSo s 0)) (hG ks s) fun x1 s2 => zLt (zMix 0 27 s s2) fun s3 => zRt (0 : Int32) s3) fun x9 s10 => zBd (rm (zSo s10 27)) fun x15 s16 => zLt (zMix 27 19 s10 s16) fun s17 => zBd (m_X8_thrown n (zSo s17 27)) fun x18 s19 => zLt (zMix 27 19 s17 s19) fun s20 => if x18 = x9 then (zLt (v4 + (5 : Int32)) fun x22 => rec x22 s20) else (zRt (0 : Int32) s20)) = rec (v4 + (5 : Int32)) s' ∧ zJ y' s' := by
  rcases C _ _ h with ⟨v, x', m', e1, -, -, -⟩ | ⟨k, b, w, x', m', hk, hb, e1, -, -, -⟩
  · have a1 : ∀ c, c < 27 → zSo (zMix 0 27 s x') 0 c = x' c := fun c hc => zMx_x hc
    have a2 : ∀ c, c < 19 → zSo (zMix 0 27 s x') 27 c = zSo s 27 c := fun c hc => zMx_m
    rw [e1, zHx_l, zLt_e, zBd_r]
    rcases C _ _ (zInv_e h (fun c _ => rfl) a2) with ⟨v1, x1, m1, f1, f2, f3, f4⟩ | ⟨k1, b1, w1, x1, m1, _, _, f1, _, _, _⟩
    · rw [e1] at f1
      cases f1
      rw [f2, zBd_e, zLt_e, q_thrown, zBd_e, zLt_e, zMix_so, zThr, if_pos f3, zLt_e]
      exact ⟨_, rfl, zJ_m f4 a1⟩
    · rw [e1] at f1
      cases f1
  · have a1 : ∀ c, c < 27 → zSo (zMix 0 27 s x') 0 c = x' c := fun c hc => zMx_x hc
    have a2 : ∀ c, c < 19 → zSo (zMix 0 27 s x') 27 c = zSo s 27 c := fun c hc => zMx_m
    rw [e1, zHx_r, hk, zBd_r]
    rcases C _ _ (zInv_e h (fun c _ => rfl) a2) with ⟨v1, x1, m1, f1, f2, f3, f4⟩ | ⟨k1, b1, w1, x1, m1, g1, g2, f1, f2, f3, f4⟩
    · rw [e1] at f1
      cases f1
    · rw [e1] at f1
      cases f1
      have hbb : b1 = b := by
        have := (g1 s x').symm.trans (hk s x')
        exact congrArg (fun q => match q with | some (a, _) => a | none => 0) this
      rw [f2, zBd_e, zLt_e, q_thrown, zBd_e, zLt_e, zMix_so, zThr, if_pos (f3.trans hbb), zLt_e]
      exact ⟨_, rfl, zJ_m f4 a1⟩
theorem L_bool {n y y' : Nat} {ks : List (Nat × Int32)} {rx : zS → Option ((Int32 ⊕ Nat) × zS)} {rm : zS → Option (Int32 × zS)} (C : ∀ x m, zInv y x m → zCall y' ks (rx x) (rm m)) {s : zS} (h : zJ y s) (rec : Int32 → zS → Option (Int32 × zS)) (v4 : Int32) : ∃ s', (zBd (zHx (rx (zSo s 0)) (hG ks s) fun x1 s2 => zLt (zMix 0 27 s s2) fun s3 => if x1 = 0 then (zWr s3 46 (0 : Int32) 1 (0 : Int32) fun s5 => zRt (0 : Int32) s5) else (zWr s3 46 (0 : Int32) 1 (1 : Int32) fun s6 => zRt (0 : Int32) s6)) fun x98 s99 => zBd (rm (zSo s99 27)) fun x102 s103 => zLt (zMix 27 19 s99 s103) fun s104 => zBd (m_X8_thrown n (zSo s104 27)) fun x105 s106 => zLt (zMix 27 19 s104 s106) fun s107 => if x105 = x98 then (if x98 = 0 then (zRd (s107 46) (0 : Int32) 1 fun x111 => if x102 = 0 then (if (lg_cmp (Int32.toInt64 x111) (0 : Int64)) = 0 then (zLt (v4 + (5 : Int32)) fun x114 => rec x114 s107) else (zRt (0 : Int32) s107)) else (if (lg_cmp (Int32.toInt64 x111) (1 : Int64)) = 0 then (zLt (v4 + (5 : Int32)) fun x116 => rec x116 s107) else (zRt (0 : Int32) s107))) else (zLt (v4 + (5 : Int32)) fun x110 => rec x110 s107)) else (zRt (0 : Int32) s107)) = rec (v4 + (5 : Int32)) s' ∧ zJ y' s' := by
  rcases C _ _ h with ⟨v, x', m', e1, -, -, -⟩ | ⟨k, b, w, x', m', hk, hb, e1, -, -, -⟩
  · rw [e1, zHx_l, zLt_e]
    by_cases hv : v = 0
    · have a1 : ∀ c, c < 27 → zSo (zU (zMix 0 27 s x') 46 0 0) 0 c = x' c := fun c hc => by rw [zSo_u (by omega), zMx_x hc]
      have a2 : ∀ c, c < 19 → zSo (zU (zMix 0 27 s x') 46 0 0) 27 c = zSo s 27 c := fun c hc => by rw [zSo_u (by omega), zMx_m]
      rw [if_pos hv, zWr_0, zBd_r]
      rcases C _ _ (zInv_e h (fun c _ => rfl) a2) with ⟨v1, x1, m1, f1, f2, f3, f4⟩ | ⟨k1, b1, w1, x1, m1, _, _, f1, _, _, _⟩
      · rw [e1] at f1
        cases f1
        rw [f2, zBd_e, zLt_e, q_thrown, zBd_e, zLt_e, zMix_so, zThr, if_pos f3, if_pos rfl, zMm_46, zRd_0, zU_eq, if_pos hv, if_pos (show lg_cmp (Int32.toInt64 0) (0 : Int64) = 0 from by decide +kernel), zLt_e]
        exact ⟨_, rfl, zJ_m f4 a1⟩
      · rw [e1] at f1
        cases f1
    · have a1 : ∀ c, c < 27 → zSo (zU (zMix 0 27 s x') 46 0 1) 0 c = x' c := fun c hc => by rw [zSo_u (by omega), zMx_x hc]
      have a2 : ∀ c, c < 19 → zSo (zU (zMix 0 27 s x') 46 0 1) 27 c = zSo s 27 c := fun c hc => by rw [zSo_u (by omega), zMx_m]
      rw [if_neg hv, zWr_0, zBd_r]
      rcases C _ _ (zInv_e h (fun c _ => rfl) a2) with ⟨v1, x1, m1, f1, f2, f3, f4⟩ | ⟨k1, b1, w1, x1, m1, _, _, f1, _, _, _⟩
      · rw [e1] at f1
        cases f1
        rw [f2, zBd_e, zLt_e, q_thrown, zBd_e, zLt_e, zMix_so, zThr, if_pos f3, if_pos rfl, zMm_46, zRd_0, zU_eq, if_neg hv, if_pos (show lg_cmp (Int32.toInt64 1) (1 : Int64) = 0 from by decide +kernel), zLt_e]
        exact ⟨_, rfl, zJ_m f4 a1⟩
      · rw [e1] at f1
        cases f1
  · have a1 : ∀ c, c < 27 → zSo (zMix 0 27 s x') 0 c = x' c := fun c hc => zMx_x hc
    have a2 : ∀ c, c < 19 → zSo (zMix 0 27 s x') 27 c = zSo s 27 c := fun c hc => zMx_m
    rw [e1, zHx_r, hk, zBd_r]
    rcases C _ _ (zInv_e h (fun c _ => rfl) a2) with ⟨v1, x1, m1, f1, f2, f3, f4⟩ | ⟨k1, b1, w1, x1, m1, g1, g2, f1, f2, f3, f4⟩
    · rw [e1] at f1
      cases f1
    · rw [e1] at f1
      cases f1
      have hbb : b1 = b := by
        have := (g1 s x').symm.trans (hk s x')
        exact congrArg (fun q => match q with | some (a, _) => a | none => 0) this
      rw [f2, zBd_e, zLt_e, q_thrown, zBd_e, zLt_e, zMix_so, zThr, if_pos (f3.trans hbb), if_neg hb, zLt_e]
      exact ⟨_, rfl, zJ_m f4 a1⟩
def zDir (y : Nat) (rx rm : Option (Int32 × zS)) : Prop := ∃ v x' m', rx = some (v, x') ∧ rm = some (v, m') ∧ zInv y x' m'
theorem L_dir {y y' : Nat} {rx rm : zS → Option (Int32 × zS)} (C : ∀ x m, zInv y x m → zDir y' (rx x) (rm m)) {s : zS} (h : zJ y s) (rec : Int32 → zS → Option (Int32 × zS)) (v4 : Int32) : ∃ s', (zBd (rx (zSo s 0)) fun x173 s174 => zLt (zMix 0 27 s s174) fun s175 => zBd (rm (zSo s175 27)) fun x176 s177 => zLt (zMix 27 19 s175 s177) fun s178 => if x173 = x176 then (zLt (v4 + (5 : Int32)) fun x180 => rec x180 s178) else (zRt (0 : Int32) s178)) = rec (v4 + (5 : Int32)) s' ∧ zJ y' s' := by
  obtain ⟨v, x', m', e1, -, -⟩ := C _ _ h
  have a1 : ∀ c, c < 27 → zSo (zMix 0 27 s x') 0 c = x' c := fun c hc => zMx_x hc
  have a2 : ∀ c, c < 19 → zSo (zMix 0 27 s x') 27 c = zSo s 27 c := fun c hc => zMx_m
  rw [e1, zBd_e, zLt_e]
  obtain ⟨v1, x1, m1, f1, f2, f3⟩ := C _ _ (zInv_e h (fun c _ => rfl) a2)
  rw [e1] at f1
  cases f1
  rw [f2, zBd_e, zLt_e, if_pos rfl, zLt_e]
  exact ⟨_, rfl, zJ_m f3 a1⟩
end PLg
