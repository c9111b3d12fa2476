section
-- ===== PART A: goes FIRST, ahead of the names: the tables' words, and 'selects' of the private methods out of them =====
/-- a private method of a class that the tables say can be made, by its rows of tables_1 -/
def lw_okq (q : MethodName × Nat) : Prop := (q.1.cls ≠ "java/lang/invoke/MethodHandle" ∧ q.1.cls ≠ "java/lang/invoke/VarHandle") ∧ Cond.instantiable q.1.cls q.2 ∈ tables_1 ∧ Cond.privateMethod q.1 ∈ tables_1 ∧ Cond.instanceMethod q.1 ∈ tables_1
theorem lw_p0 : lw_okq (⟨"TaxEngine$Plan", "findReach", "(LTaxEngine$Sheet;)V"⟩, 7) := ⟨⟨by decide +kernel, by decide +kernel⟩, List.mem_of_getElem? (i := 47) (by decide +kernel), List.mem_of_getElem? (i := 177) (by decide +kernel), List.mem_of_getElem? (i := 178) (by decide +kernel)⟩
theorem lw_p1 : lw_okq (⟨"TaxEngine$Plan", "findGroups", "()V"⟩, 7) := ⟨⟨by decide +kernel, by decide +kernel⟩, List.mem_of_getElem? (i := 47) (by decide +kernel), List.mem_of_getElem? (i := 221) (by decide +kernel), List.mem_of_getElem? (i := 222) (by decide +kernel)⟩
theorem lw_p2 : lw_okq (⟨"TaxEngine$Plan", "isReady", "(I)Z"⟩, 7) := ⟨⟨by decide +kernel, by decide +kernel⟩, List.mem_of_getElem? (i := 47) (by decide +kernel), List.mem_of_getElem? (i := 227) (by decide +kernel), List.mem_of_getElem? (i := 228) (by decide +kernel)⟩
theorem lw_p3 : lw_okq (⟨"TaxEngine$Plan", "place", "(I)V"⟩, 7) := ⟨⟨by decide +kernel, by decide +kernel⟩, List.mem_of_getElem? (i := 47) (by decide +kernel), List.mem_of_getElem? (i := 239) (by decide +kernel), List.mem_of_getElem? (i := 240) (by decide +kernel)⟩
theorem lw_p4 : lw_okq (⟨"TaxEngine$Plan", "placeCircle", "(LTaxEngine$Sheet;I)Z"⟩, 7) := ⟨⟨by decide +kernel, by decide +kernel⟩, List.mem_of_getElem? (i := 47) (by decide +kernel), List.mem_of_getElem? (i := 243) (by decide +kernel), List.mem_of_getElem? (i := 244) (by decide +kernel)⟩
theorem lw_p5 : lw_okq (⟨"TaxEngine$Plan", "onlyLimit", "(LTaxEngine$Sheet;I)I"⟩, 7) := ⟨⟨by decide +kernel, by decide +kernel⟩, List.mem_of_getElem? (i := 47) (by decide +kernel), List.mem_of_getElem? (i := 247) (by decide +kernel), List.mem_of_getElem? (i := 248) (by decide +kernel)⟩
theorem lw_p6 : lw_okq (⟨"TaxEngine$Plan", "direct", "(LTaxEngine$Sheet;I)V"⟩, 7) := ⟨⟨by decide +kernel, by decide +kernel⟩, List.mem_of_getElem? (i := 47) (by decide +kernel), List.mem_of_getElem? (i := 253) (by decide +kernel), List.mem_of_getElem? (i := 254) (by decide +kernel)⟩
theorem lw_p7 : lw_okq (⟨"TaxEngine$Values", "greatest", "(I)I"⟩, 6) := ⟨⟨by decide +kernel, by decide +kernel⟩, List.mem_of_getElem? (i := 132) (by decide +kernel), List.mem_of_getElem? (i := 330) (by decide +kernel), List.mem_of_getElem? (i := 331) (by decide +kernel)⟩
theorem lw_p8 : lw_okq (⟨"TaxEngine$Values", "plain", "(I)I"⟩, 6) := ⟨⟨by decide +kernel, by decide +kernel⟩, List.mem_of_getElem? (i := 132) (by decide +kernel), List.mem_of_getElem? (i := 352) (by decide +kernel), List.mem_of_getElem? (i := 353) (by decide +kernel)⟩
theorem lw_p9 : lw_okq (⟨"TaxEngine$Amounts", "move", "(II)V"⟩, 4) := ⟨⟨by decide +kernel, by decide +kernel⟩, List.mem_of_getElem? (i := 91) (by decide +kernel), List.mem_of_getElem? (i := 393) (by decide +kernel), List.mem_of_getElem? (i := 394) (by decide +kernel)⟩
theorem lw_p10 : lw_okq (⟨"java/lang/Throwable", "fillInStackTrace", "(I)Ljava/lang/Throwable;"⟩, 6) := ⟨⟨by decide +kernel, by decide +kernel⟩, List.mem_of_getElem? (i := 454) (by decide +kernel), List.mem_of_getElem? (i := 452) (by decide +kernel), List.mem_of_getElem? (i := 453) (by decide +kernel)⟩
theorem lw_p11 : lw_okq (⟨"TaxEngine$Explanation", "add", "(I)V"⟩, 3) := ⟨⟨by decide +kernel, by decide +kernel⟩, List.mem_of_getElem? (i := 157) (by decide +kernel), List.mem_of_getElem? (i := 592) (by decide +kernel), List.mem_of_getElem? (i := 593) (by decide +kernel)⟩
theorem lw_p12 : lw_okq (⟨"TaxEngine$Explanation", "addReasons", "(ILTaxEngine$Sheet;LTaxEngine$Values;)V"⟩, 3) := ⟨⟨by decide +kernel, by decide +kernel⟩, List.mem_of_getElem? (i := 157) (by decide +kernel), List.mem_of_getElem? (i := 600) (by decide +kernel), List.mem_of_getElem? (i := 601) (by decide +kernel)⟩
theorem lw_p13 : lw_okq (⟨"TaxEngine$Brackets", "placeFor", "(I)I"⟩, 3) := ⟨⟨by decide +kernel, by decide +kernel⟩, List.mem_of_getElem? (i := 75) (by decide +kernel), List.mem_of_getElem? (i := 623) (by decide +kernel), List.mem_of_getElem? (i := 624) (by decide +kernel)⟩
theorem lw_p14 : lw_okq (⟨"TaxEngine$Brackets", "isAt", "(II)Z"⟩, 3) := ⟨⟨by decide +kernel, by decide +kernel⟩, List.mem_of_getElem? (i := 75) (by decide +kernel), List.mem_of_getElem? (i := 627) (by decide +kernel), List.mem_of_getElem? (i := 628) (by decide +kernel)⟩
theorem lw_p15 : lw_okq (⟨"TaxEngine$Credits", "sumInOrder", "(I)I"⟩, 5) := ⟨⟨by decide +kernel, by decide +kernel⟩, List.mem_of_getElem? (i := 110) (by decide +kernel), List.mem_of_getElem? (i := 705) (by decide +kernel), List.mem_of_getElem? (i := 706) (by decide +kernel)⟩
def lw_privs_1 : List (MethodName × Nat) := [(⟨"TaxEngine$Plan", "findReach", "(LTaxEngine$Sheet;)V"⟩, 7), (⟨"TaxEngine$Plan", "findGroups", "()V"⟩, 7), (⟨"TaxEngine$Plan", "isReady", "(I)Z"⟩, 7), (⟨"TaxEngine$Plan", "place", "(I)V"⟩, 7), (⟨"TaxEngine$Plan", "placeCircle", "(LTaxEngine$Sheet;I)Z"⟩, 7), (⟨"TaxEngine$Plan", "onlyLimit", "(LTaxEngine$Sheet;I)I"⟩, 7), (⟨"TaxEngine$Plan", "direct", "(LTaxEngine$Sheet;I)V"⟩, 7), (⟨"TaxEngine$Values", "greatest", "(I)I"⟩, 6), (⟨"TaxEngine$Values", "plain", "(I)I"⟩, 6), (⟨"TaxEngine$Amounts", "move", "(II)V"⟩, 4), (⟨"java/lang/Throwable", "fillInStackTrace", "(I)Ljava/lang/Throwable;"⟩, 6), (⟨"TaxEngine$Explanation", "add", "(I)V"⟩, 3), (⟨"TaxEngine$Explanation", "addReasons", "(ILTaxEngine$Sheet;LTaxEngine$Values;)V"⟩, 3), (⟨"TaxEngine$Brackets", "placeFor", "(I)I"⟩, 3), (⟨"TaxEngine$Brackets", "isAt", "(II)Z"⟩, 3), (⟨"TaxEngine$Credits", "sumInOrder", "(I)I"⟩, 5)]
theorem lw_r1 : ∀ q ∈ lw_privs_1, lw_okq q := List.forall_mem_cons.mpr ⟨lw_p0, List.forall_mem_cons.mpr ⟨lw_p1, List.forall_mem_cons.mpr ⟨lw_p2, List.forall_mem_cons.mpr ⟨lw_p3, List.forall_mem_cons.mpr ⟨lw_p4, List.forall_mem_cons.mpr ⟨lw_p5, List.forall_mem_cons.mpr ⟨lw_p6, List.forall_mem_cons.mpr ⟨lw_p7, List.forall_mem_cons.mpr ⟨lw_p8, List.forall_mem_cons.mpr ⟨lw_p9, List.forall_mem_cons.mpr ⟨lw_p10, List.forall_mem_cons.mpr ⟨lw_p11, List.forall_mem_cons.mpr ⟨lw_p12, List.forall_mem_cons.mpr ⟨lw_p13, List.forall_mem_cons.mpr ⟨lw_p14, List.forall_mem_cons.mpr ⟨lw_p15, fun _ h => absurd h List.not_mem_nil⟩⟩⟩⟩⟩⟩⟩⟩⟩⟩⟩⟩⟩⟩⟩⟩
theorem lw_p16 : lw_okq (⟨"TaxEngine$Credits", "keepOrder", "()V"⟩, 5) := ⟨⟨by decide +kernel, by decide +kernel⟩, List.mem_of_getElem? (i := 110) (by decide +kernel), List.mem_of_getElem? (i := 712) (by decide +kernel), List.mem_of_getElem? (i := 713) (by decide +kernel)⟩
theorem lw_p17 : lw_okq (⟨"TaxEngine$Credits", "toNextOrder", "()Z"⟩, 5) := ⟨⟨by decide +kernel, by decide +kernel⟩, List.mem_of_getElem? (i := 110) (by decide +kernel), List.mem_of_getElem? (i := 716) (by decide +kernel), List.mem_of_getElem? (i := 717) (by decide +kernel)⟩
theorem lw_p18 : lw_okq (⟨"TaxEngine$Credits", "swap", "(II)V"⟩, 5) := ⟨⟨by decide +kernel, by decide +kernel⟩, List.mem_of_getElem? (i := 110) (by decide +kernel), List.mem_of_getElem? (i := 720) (by decide +kernel), List.mem_of_getElem? (i := 721) (by decide +kernel)⟩
theorem lw_p19 : lw_okq (⟨"TaxEngineModel", "isAllowed", "()Z"⟩, 24) := ⟨⟨by decide +kernel, by decide +kernel⟩, List.mem_of_getElem? (i := 747) (by decide +kernel), List.mem_of_getElem? (i := 841) (by decide +kernel), List.mem_of_getElem? (i := 842) (by decide +kernel)⟩
theorem lw_p20 : lw_okq (⟨"TaxEngineModel", "laysNeeds", "(I)V"⟩, 24) := ⟨⟨by decide +kernel, by decide +kernel⟩, List.mem_of_getElem? (i := 747) (by decide +kernel), List.mem_of_getElem? (i := 845) (by decide +kernel), List.mem_of_getElem? (i := 846) (by decide +kernel)⟩
theorem lw_p21 : lw_okq (⟨"TaxEngineModel", "usesFirst", "(I)Z"⟩, 24) := ⟨⟨by decide +kernel, by decide +kernel⟩, List.mem_of_getElem? (i := 747) (by decide +kernel), List.mem_of_getElem? (i := 849) (by decide +kernel), List.mem_of_getElem? (i := 850) (by decide +kernel)⟩
theorem lw_p22 : lw_okq (⟨"TaxEngineModel", "usesSecond", "(I)Z"⟩, 24) := ⟨⟨by decide +kernel, by decide +kernel⟩, List.mem_of_getElem? (i := 747) (by decide +kernel), List.mem_of_getElem? (i := 853) (by decide +kernel), List.mem_of_getElem? (i := 854) (by decide +kernel)⟩
theorem lw_p23 : lw_okq (⟨"TaxEngineModel", "depends", "(II)Z"⟩, 24) := ⟨⟨by decide +kernel, by decide +kernel⟩, List.mem_of_getElem? (i := 747) (by decide +kernel), List.mem_of_getElem? (i := 857) (by decide +kernel), List.mem_of_getElem? (i := 858) (by decide +kernel)⟩
theorem lw_p24 : lw_okq (⟨"TaxEngineModel", "circle", "(I)I"⟩, 24) := ⟨⟨by decide +kernel, by decide +kernel⟩, List.mem_of_getElem? (i := 747) (by decide +kernel), List.mem_of_getElem? (i := 861) (by decide +kernel), List.mem_of_getElem? (i := 862) (by decide +kernel)⟩
theorem lw_p25 : lw_okq (⟨"TaxEngineModel", "isFalling", "(II)Z"⟩, 24) := ⟨⟨by decide +kernel, by decide +kernel⟩, List.mem_of_getElem? (i := 747) (by decide +kernel), List.mem_of_getElem? (i := 865) (by decide +kernel), List.mem_of_getElem? (i := 866) (by decide +kernel)⟩
theorem lw_p26 : lw_okq (⟨"TaxEngineModel", "solves", "(II)V"⟩, 24) := ⟨⟨by decide +kernel, by decide +kernel⟩, List.mem_of_getElem? (i := 747) (by decide +kernel), List.mem_of_getElem? (i := 885) (by decide +kernel), List.mem_of_getElem? (i := 886) (by decide +kernel)⟩
theorem lw_p27 : lw_okq (⟨"TaxEngineModel", "passes", "(I)V"⟩, 24) := ⟨⟨by decide +kernel, by decide +kernel⟩, List.mem_of_getElem? (i := 747) (by decide +kernel), List.mem_of_getElem? (i := 889) (by decide +kernel), List.mem_of_getElem? (i := 890) (by decide +kernel)⟩
theorem lw_p28 : lw_okq (⟨"TaxEngineModel", "works", "(II)I"⟩, 24) := ⟨⟨by decide +kernel, by decide +kernel⟩, List.mem_of_getElem? (i := 747) (by decide +kernel), List.mem_of_getElem? (i := 893) (by decide +kernel), List.mem_of_getElem? (i := 894) (by decide +kernel)⟩
theorem lw_p29 : lw_okq (⟨"TaxEngineModel", "taxed", "(I)I"⟩, 24) := ⟨⟨by decide +kernel, by decide +kernel⟩, List.mem_of_getElem? (i := 747) (by decide +kernel), List.mem_of_getElem? (i := 899) (by decide +kernel), List.mem_of_getElem? (i := 900) (by decide +kernel)⟩
theorem lw_p30 : lw_okq (⟨"TaxEngineModel", "all", "()I"⟩, 24) := ⟨⟨by decide +kernel, by decide +kernel⟩, List.mem_of_getElem? (i := 747) (by decide +kernel), List.mem_of_getElem? (i := 903) (by decide +kernel), List.mem_of_getElem? (i := 904) (by decide +kernel)⟩
theorem lw_p31 : lw_okq (⟨"TaxEngineModel", "tries", "(II)Z"⟩, 24) := ⟨⟨by decide +kernel, by decide +kernel⟩, List.mem_of_getElem? (i := 747) (by decide +kernel), List.mem_of_getElem? (i := 907) (by decide +kernel), List.mem_of_getElem? (i := 908) (by decide +kernel)⟩
def lw_privs_2 : List (MethodName × Nat) := [(⟨"TaxEngine$Credits", "keepOrder", "()V"⟩, 5), (⟨"TaxEngine$Credits", "toNextOrder", "()Z"⟩, 5), (⟨"TaxEngine$Credits", "swap", "(II)V"⟩, 5), (⟨"TaxEngineModel", "isAllowed", "()Z"⟩, 24), (⟨"TaxEngineModel", "laysNeeds", "(I)V"⟩, 24), (⟨"TaxEngineModel", "usesFirst", "(I)Z"⟩, 24), (⟨"TaxEngineModel", "usesSecond", "(I)Z"⟩, 24), (⟨"TaxEngineModel", "depends", "(II)Z"⟩, 24), (⟨"TaxEngineModel", "circle", "(I)I"⟩, 24), (⟨"TaxEngineModel", "isFalling", "(II)Z"⟩, 24), (⟨"TaxEngineModel", "solves", "(II)V"⟩, 24), (⟨"TaxEngineModel", "passes", "(I)V"⟩, 24), (⟨"TaxEngineModel", "works", "(II)I"⟩, 24), (⟨"TaxEngineModel", "taxed", "(I)I"⟩, 24), (⟨"TaxEngineModel", "all", "()I"⟩, 24), (⟨"TaxEngineModel", "tries", "(II)Z"⟩, 24)]
theorem lw_r2 : ∀ q ∈ lw_privs_2, lw_okq q := List.forall_mem_cons.mpr ⟨lw_p16, List.forall_mem_cons.mpr ⟨lw_p17, List.forall_mem_cons.mpr ⟨lw_p18, List.forall_mem_cons.mpr ⟨lw_p19, List.forall_mem_cons.mpr ⟨lw_p20, List.forall_mem_cons.mpr ⟨lw_p21, List.forall_mem_cons.mpr ⟨lw_p22, List.forall_mem_cons.mpr ⟨lw_p23, List.forall_mem_cons.mpr ⟨lw_p24, List.forall_mem_cons.mpr ⟨lw_p25, List.forall_mem_cons.mpr ⟨lw_p26, List.forall_mem_cons.mpr ⟨lw_p27, List.forall_mem_cons.mpr ⟨lw_p28, List.forall_mem_cons.mpr ⟨lw_p29, List.forall_mem_cons.mpr ⟨lw_p30, List.forall_mem_cons.mpr ⟨lw_p31, fun _ h => absurd h List.not_mem_nil⟩⟩⟩⟩⟩⟩⟩⟩⟩⟩⟩⟩⟩⟩⟩⟩
theorem lw_p32 : lw_okq (⟨"TaxEngineModel", "halves", "(I)V"⟩, 24) := ⟨⟨by decide +kernel, by decide +kernel⟩, List.mem_of_getElem? (i := 747) (by decide +kernel), List.mem_of_getElem? (i := 911) (by decide +kernel), List.mem_of_getElem? (i := 912) (by decide +kernel)⟩
theorem lw_p33 : lw_okq (⟨"TaxEngineModel", "spends", "(I)I"⟩, 24) := ⟨⟨by decide +kernel, by decide +kernel⟩, List.mem_of_getElem? (i := 747) (by decide +kernel), List.mem_of_getElem? (i := 963) (by decide +kernel), List.mem_of_getElem? (i := 964) (by decide +kernel)⟩
theorem lw_p34 : lw_okq (⟨"TaxEngineModel", "orders", "(I)V"⟩, 24) := ⟨⟨by decide +kernel, by decide +kernel⟩, List.mem_of_getElem? (i := 747) (by decide +kernel), List.mem_of_getElem? (i := 979) (by decide +kernel), List.mem_of_getElem? (i := 980) (by decide +kernel)⟩
theorem lw_p35 : lw_okq (⟨"TaxEngineModel", "laysOrder", "(I)Z"⟩, 24) := ⟨⟨by decide +kernel, by decide +kernel⟩, List.mem_of_getElem? (i := 747) (by decide +kernel), List.mem_of_getElem? (i := 983) (by decide +kernel), List.mem_of_getElem? (i := 984) (by decide +kernel)⟩
theorem lw_p36 : lw_okq (⟨"TaxEngineModel", "comes", "(I)I"⟩, 24) := ⟨⟨by decide +kernel, by decide +kernel⟩, List.mem_of_getElem? (i := 747) (by decide +kernel), List.mem_of_getElem? (i := 987) (by decide +kernel), List.mem_of_getElem? (i := 988) (by decide +kernel)⟩
def lw_privs_3 : List (MethodName × Nat) := [(⟨"TaxEngineModel", "halves", "(I)V"⟩, 24), (⟨"TaxEngineModel", "spends", "(I)I"⟩, 24), (⟨"TaxEngineModel", "orders", "(I)V"⟩, 24), (⟨"TaxEngineModel", "laysOrder", "(I)Z"⟩, 24), (⟨"TaxEngineModel", "comes", "(I)I"⟩, 24)]
theorem lw_r3 : ∀ q ∈ lw_privs_3, lw_okq q := List.forall_mem_cons.mpr ⟨lw_p32, List.forall_mem_cons.mpr ⟨lw_p33, List.forall_mem_cons.mpr ⟨lw_p34, List.forall_mem_cons.mpr ⟨lw_p35, List.forall_mem_cons.mpr ⟨lw_p36, fun _ h => absurd h List.not_mem_nil⟩⟩⟩⟩⟩
def lw_privs : List (MethodName × Nat) := lw_privs_1 ++ (lw_privs_2 ++ (lw_privs_3))
def lw_tbl : List Cond := k2_sels lw_privs ++ tables_1
theorem lw_privs_ok : ∀ q ∈ lw_privs, lw_okq q := by
  show ∀ q ∈ lw_privs_1 ++ (lw_privs_2 ++ (lw_privs_3)), lw_okq q
  exact List.forall_mem_append.mpr ⟨lw_r1, List.forall_mem_append.mpr ⟨lw_r2, lw_r3⟩⟩
end
section
/-! ===== BEGIN words of one list among another's, by their places ===== -/
theorem goodIn_r {big : List Cond} (ws : List Cond) (ps : List Nat) (hp : ws = ps.filterMap (fun i => big[i]?)) (h : ws.all goodWord = true) : GoodIn big ws := by
  intro w hw
  have h1 := List.all_eq_true.mp h w hw
  rw [hp] at hw
  obtain ⟨i, -, hi⟩ := List.mem_filterMap.mp hw
  have hm : w ∈ big := by first | exact List.mem_of_getElem? hi | exact List.getElem?_mem hi
  exact ⟨hm, good_of_word h1⟩
theorem goodIn_app {big a b : List Cond} (ha : GoodIn big a) (hb : GoodIn big b) : GoodIn big (a ++ b) := fun w h => (List.mem_append.mp h).elim (ha w) (hb w)
theorem goodIn_ca {big a b : List Cond} {c : Cond} (ha : GoodIn big (c :: a)) (hb : GoodIn big b) : GoodIn big (c :: (a ++ b)) := fun w h => (List.mem_cons.mp h).elim (fun e => ha w (List.mem_cons.mpr (Or.inl e))) (fun h => (List.mem_append.mp h).elim (fun h => ha w (List.mem_cons.mpr (Or.inr h))) (hb w))
theorem goodIn_sub {big ws : List Cond} (hm : ∀ w ∈ ws, w ∈ big) (h : ws.all goodWord = true) : GoodIn big ws := fun w hw => ⟨hm w hw, good_of_word (List.all_eq_true.mp h w hw)⟩
/-! ===== END ===== -/

/-! ===== BEGIN exceptions that leave a method, and their catching by the caller (launches without stack traces) ===== -/
section VXA
/-! The laws vx_back, vx_callV, vx_callS, vx_callSW, vx_throw0, vx_throwS follow proofs of the library, with one case more: JvmDerived/Free/Laws.lean (Back.of_free), Shelf42/LK1.lean (callV, callS), Shelf/KitTraced.lean (throwNew0V, throwNewS). -/
/-- where a method has thrown q: the class by its name, the cell, what was written, the world -/
def vx_T (XC : String → State → State → Prop) (st : State) (q : Addr) (t : State) (mc ms : Nat) (free : Addr → Prop) : Prop :=
  ∃ (E : String) (ce : Cell) (L : List Loc), XC E st t ∧ t.heap[q]? = some ce ∧ ce.vm = .none ∧ st.vm.findClass E = some ce.cls ∧ st.WarmedH t.vm ∧ st.sameButNew ({ t with vm := st.vm } : State) L mc ms ∧ ∀ z ∈ L, free z.base
def vx_Q (Qc : Array Value → State → Outcome → State → Prop) (XC : String → State → State → Prop) (mc ms : Nat) (free : Addr → Prop) : Array Value → State → Outcome → State → Prop := fun a st o t =>
  (Qc a st o t ∧ ∃ L, FrameEnd st o t L mc ms ∧ ∀ q ∈ L, free q.base) ∨ ∃ q, o = .threw q ∧ vx_T XC st q t mc ms free
/-- a callee that returns or throws -/
def vx_Met (l : Launch) (y : MethodName) (ws : List Cond) (rm : Room) (Pc : Array Value → State → Prop) (Qc : Array Value → State → Outcome → State → Prop) (XC : String → State → State → Prop) (mc ms : Nat) (free : Addr → Prop) : Prop :=
  MetFree l y (headSpec ws rm) Pc (fun _ _ _ _ _ => True) (vx_Q Qc XC mc ms free)
def vx_Post (XC : String → State → State → Prop) (mc ms : Nat) (free : Addr → Prop) : Pt → Array Value → Addr → Pt → Prop := fun A a q B =>
  ∃ (g : JFrame) (mk : MethodId) (t : State) (L : List Loc) (E : String) (ce : Cell), B.U.heap = t.heap ∧ B.U.vm = t.vm ∧ XC E (A.U.calling g mk a) t ∧ t.heap[q]? = some ce ∧ ce.vm = .none ∧ A.U.vm.findClass E = some ce.cls ∧ B.locs = A.locs ++ L ∧ (∀ z ∈ L, free z.base) ∧ B.cells = A.cells + mc ∧ B.slots = A.slots + ms
def vx_Back (l : Launch) (R : Room) (p : Program) (e : Env) (below : List Frame) (s : State) (sargs : Array Value) (y : MethodName) (len W9 : Nat)
    (Pre : Pt → Array Value → Prop) (Post : Pt → Array Value → Option Value → Pt → Prop) (PostX : Pt → Array Value → Addr → Pt → Prop) : Prop :=
  ∀ (m : MethodId) (meth : Method) (c : Code) (A : Pt) (g : JFrame) (ig : Instr) (mk : MethodId) (a : Array Value),
    Stand p l e R s m sargs below meth c A.U A.locs A.cells A.slots → g.method = m → g.locals.size = c.maxLocals → decode c.code g.pc = .ok (ig, len) →
    2 * g.monitorRoom + (g.stack.map fun v => v.category).sum ≤ W9 → A.U.methodNamed? y = some mk → Pre A a →
    (∃ (v : Option Value) (B : Pt), Stand p l e R s m sargs below meth c B.U B.locs B.cells B.slots ∧ Post A a v B ∧
      Steps p.tables e below (doInvoke e (A.U.setTop g) [] mk a).1 (B.U.setTop { g with pc := g.pc + len, stack := v.toList ++ g.stack })) ∨
    (∃ (q : Addr) (B : Pt), Stand p l e R s m sargs below meth c B.U B.locs B.cells B.slots ∧ PostX A a q B ∧
      Steps p.tables e below (doInvoke e (A.U.setTop g) [] mk a).1 ((B.U.setTop g).pushFrame (.throwing q)))
section Payer
variable {l : Launch} {R : Room} {p : Program} {e : Env} {below : List Frame} {s : State} {sargs : Array Value} {y : MethodName} {len W9 : Nat}
theorem vx_back {ws : List Cond} {rm : Room} {Pc : Array Value → State → Prop} {Qc : Array Value → State → Outcome → State → Prop} {XC : String → State → State → Prop} {mc ms : Nat} {free : Addr → Prop} {bytes : ByteArray} {maxL : Nat} {ret : Option FieldType}
    (hM : vx_Met l y ws rm Pc Qc XC mc ms free) (hblind : FrameBlind Pc) (hrc : rm.cells = mc) (hrs : rm.slots = ms)
    (hframes : rm.frames + 1 ≤ R.frames) (hlocals : W9 + (maxL + 11) + rm.locals ≤ R.locals)
    (hws : ∀ w ∈ ws, ∀ a' U, s.WarmedH U.vm → w.before a' U = true) (hcode : Cond.code y bytes maxL ret ∈ ws) (hinit : ∀ a' U, s.WarmedH U.vm → (Cond.initialized y.cls).before a' U = true) :
    vx_Back l R p e below s sargs y len W9 (PreOf R mc ms Pc) (PostOf Qc mc ms free) (vx_Post XC mc ms free) := by
  intro m meth c A g ig mk a X hg hsize hdg hW hn hp
  have h1 : (headSpec ws rm).pre.before a A.U = true := atoms_intro fun w hw => hws w hw _ _ X.warmed
  have h2 : (Cond.code y bytes maxL ret).before a A.U = true := hws _ hcode _ _ X.warmed
  have h3 : (Cond.initialized y.cls).before a A.U = true := hinit _ _ X.warmed
  have h4 : A.cells + (headSpec ws rm).room.cells ≤ R.cells := by rw [show (headSpec ws rm).room.cells = mc from hrc]; exact hp.1
  have h5 : A.slots + (headSpec ws rm).room.slots ≤ R.slots := by rw [show (headSpec ws rm).room.slots = ms from hrs]; exact hp.2.1
  have hPc : Pc a (A.U.calling g mk a) := hblind _ _ _ _ hp.2.2
  obtain ⟨U, Ls, c0, s0⟩ := A
  dsimp only [Pt.U, Pt.locs, Pt.cells, Pt.slots] at h1 h2 h3 h4 h5 X hn hPc ⊢
  obtain ⟨methY, cY, hmY, hcY, -, hlY, -, -, -, -⟩ := Cond.code_spec hn h2
  obtain ⟨kY, hkY, -⟩ := className_of_methodNamed hn
  have hinitY : kY.init = .initialized := Cond.initialized_spec (findClass_of_methodNamed hn) hkY h3
  have h : At U g.method c below := by rw [hg]; exact X.here
  have hlocals9 : W9 + (maxL + 11) + (headSpec ws rm).room.locals ≤ R.locals := hlocals
  have happ : (headSpec ws rm).appliesLoose y e.platform (U.calling g mk a) = true :=
    Spec.appliesLoose_calling (g := g) h hdg hn hkY hinitY
      (X.room_calling (g := g) (R' := (headSpec ws rm).room) hsize hmY hcY hframes (by rw [hlY]; omega) h4 h5) h1
  obtain ⟨mid, hmid⟩ := h.above
  have hfr : (U.setTop g).frames = (.java g :: mid) ++ below := by rw [State.frames_setTop' g h.top, hmid]; rfl
  obtain ⟨o, s₂, hsteps, -, hend, hq⟩ := Steps.callFree hM p X.admits X.cas X.clock (acts := []) hfr happ hPc trivial
  have hq' : vx_Q Qc XC mc ms free a (U.calling g mk a) o s₂ := hq
  rw [State.frames_setTop' g h.top] at hend
  obtain ⟨g₀, hg0⟩ := Option.isSome_iff_exists.mp h.top
  obtain ⟨r, hr⟩ := State.topJava?_eq_some.mp hg0
  have hr' : (({ U with heap := s₂.heap, slotsUsed := s₂.slotsUsed } : State).setVm s₂.vm).frames = .java g₀ :: r := hr
  rcases hq' with ⟨hqc, L, hfe, hL⟩ | ⟨q, rfl, E, ce, L, hx, hce, hcv, hcl, hW₂, hsm, hL⟩
  · obtain ⟨⟨v, rfl⟩, hW₂, e2, q2, q3, q4, q5, q6⟩ := id hfe
    have e3 : s₂ = ({ (U.calling g mk a).setFrames s₂.frames with heap := s₂.heap, slotsUsed := s₂.slotsUsed } : State).setVm s₂.vm := by
      have : s₂ = ({ s₂ with vm := (U.calling g mk a).vm } : State).setVm s₂.vm := rfl
      rw [e2] at this
      exact this
    obtain ⟨c₂, i₂, len₂, hc₂, hd₂, hf₂⟩ := hend
    have hW' : U.WarmedH s₂.vm := hW₂
    have hcc : c₂ = c := by
      have h1 : s₂.code? g.method = U.code? g.method := by
        rw [State.code?_eq, State.code?_eq, hW'.alike.method?]
      exact Option.some.inj (hc₂.symm.trans (h1.trans h.code))
    subst hcc
    have hlen : len₂ = len := by rw [hdg] at hd₂; cases hd₂; rfl
    subst hlen
    have hs₂ : s₂ = (({ U with heap := s₂.heap, slotsUsed := s₂.slotsUsed } : State).setVm s₂.vm).setTop { g with pc := g.pc + len₂, stack := v.toList ++ g.stack } := by
      refine e3.trans ?_
      rw [hf₂, State.calling_eq h.top, State.setFrames_setFrames, State.setTop_of_frames _ hr', hr]
      rfl
    have hsame : U.sameButNew ({ U with heap := s₂.heap, slotsUsed := s₂.slotsUsed } : State) L mc ms := by
      refine ⟨?_, q2, q3, q4, q5, q6⟩
      obtain ⟨t, ht, -⟩ := State.frames_cons hr
      show ({ U with heap := s₂.heap, slotsUsed := s₂.slotsUsed } : State) = { U.setFrames U.frames with heap := s₂.heap, slotsUsed := s₂.slotsUsed }
      rw [State.setFrames_self ht]
    subst hg
    refine Or.inl ⟨v, ⟨(({ U with heap := s₂.heap, slotsUsed := s₂.slotsUsed } : State).setVm s₂.vm), Ls ++ L, c0 + mc, s0 + ms⟩,
      ⟨X.admits, X.cas, X.clock, X.frames, X.room, X.hears, X.method, X.code, (X.here.setHeapUsed s₂.heap s₂.slotsUsed).setVm hW'.alike, X.tail, State.WarmedH.trans X.warmed hW', X.limits, X.bytes, X.same.trans (hsame.setVm s.vm)⟩,
      ⟨g, mk, s₂, L, rfl, rfl, hqc, rfl, hL, rfl, rfl⟩, ?_⟩
    show Steps p.tables e below _ ((({ U with heap := s₂.heap, slotsUsed := s₂.slotsUsed } : State).setVm s₂.vm).setTop { g with pc := g.pc + len₂, stack := v.toList ++ g.stack })
    rw [← hs₂]
    exact hsteps
  · obtain ⟨e2, q2, q3, q4, q5, q6⟩ := id hsm
    have e3 : s₂ = ({ (U.calling g mk a).setFrames s₂.frames with heap := s₂.heap, slotsUsed := s₂.slotsUsed } : State).setVm s₂.vm := by
      have : s₂ = ({ s₂ with vm := (U.calling g mk a).vm } : State).setVm s₂.vm := rfl
      rw [e2] at this
      exact this
    have hf₂ : s₂.frames = .throwing q :: .java g :: U.frames.tail := hend
    have hW' : U.WarmedH s₂.vm := hW₂
    have hs₂ : s₂ = ((({ U with heap := s₂.heap, slotsUsed := s₂.slotsUsed } : State).setVm s₂.vm).setTop g).pushFrame (.throwing q) := by
      refine e3.trans ?_
      rw [hf₂, State.calling_eq h.top, State.setFrames_setFrames, State.pushFrame, State.frames_setTop _ hr', State.setTop_of_frames _ hr', State.setFrames_setFrames, hr]
      rfl
    have hsame : U.sameButNew ({ U with heap := s₂.heap, slotsUsed := s₂.slotsUsed } : State) L mc ms := by
      refine ⟨?_, q2, q3, q4, q5, q6⟩
      obtain ⟨t, ht, -⟩ := State.frames_cons hr
      show ({ U with heap := s₂.heap, slotsUsed := s₂.slotsUsed } : State) = { U.setFrames U.frames with heap := s₂.heap, slotsUsed := s₂.slotsUsed }
      rw [State.setFrames_self ht]
    subst hg
    refine Or.inr ⟨q, ⟨(({ U with heap := s₂.heap, slotsUsed := s₂.slotsUsed } : State).setVm s₂.vm), Ls ++ L, c0 + mc, s0 + ms⟩,
      ⟨X.admits, X.cas, X.clock, X.frames, X.room, X.hears, X.method, X.code, (X.here.setHeapUsed s₂.heap s₂.slotsUsed).setVm hW'.alike, X.tail, State.WarmedH.trans X.warmed hW', X.limits, X.bytes, X.same.trans (hsame.setVm s.vm)⟩,
      ⟨g, mk, s₂, L, E, ce, rfl, rfl, hx, hce, hcv, hcl, rfl, hL, rfl, rfl⟩, ?_⟩
    show Steps p.tables e below _ (((({ U with heap := s₂.heap, slotsUsed := s₂.slotsUsed } : State).setVm s₂.vm).setTop g).pushFrame (.throwing q))
    rw [← hs₂]
    exact hsteps
end Payer
section Calls
variable {p : Program} {l : Launch} {e : Env} {R : Room} {s : State} {m : MethodId} {args : Array Value} {below : List Frame} {meth : Method} {c : Code} {T : State} {locs : List Loc} {cells slots : Nat}
theorem vx_callV (X : Stand p l e R s m args below meth c T locs cells slots) (hexec : p.tables.exec = Jvm.exec) {own C : String} {index : Nat} {y : MethodName} {bytes : ByteArray} {maxL : Nat} {ret : Option FieldType}
    (hown : s.vm.findClass own = some m.cls) (hlink : (Cond.methodLink own index y).before args s = true) (hinst : (Cond.instanceMethod y).before args s = true) (hsel : (Cond.selects C y y).before args s = true)
    (hcode : (Cond.code y bytes maxL ret).before args s = true) (hy : y.cls ≠ "java/lang/invoke/MethodHandle" ∧ y.cls ≠ "java/lang/invoke/VarHandle")
    {W9 : Nat} {Pre : Pt → Array Value → Prop} {Post : Pt → Array Value → Option Value → Pt → Prop} {PostX : Pt → Array Value → Addr → Pt → Prop} (hK : vx_Back l R p e below s args y 3 W9 Pre Post PostX)
    {b : Addr} {cellB : Cell} (hcell : T.heap[b]? = some cellB) (hobj : cellB.vm.isStatics = false) (hcls : s.vm.findClass C = some cellB.cls)
    {g : JFrame} (hg : g.method = m) (hsize : g.locals.size = c.maxLocals) {argsL rest : List Value} (hlen : ∀ sig, parseMethodDescriptor y.desc = some sig → argsL.length = sig.parameters.length)
    (hstack : g.stack = argsL.reverse ++ .ref b :: rest) (hW : 2 * g.monitorRoom + (rest.map fun v => v.category).sum ≤ W9) (hdg : decode c.code g.pc = .ok (.invokevirtual index, 3))
    (hpre : ∀ vm₁, s.WarmedH vm₁ → Pre ⟨T.setVm vm₁, locs, cells, slots⟩ (Value.ref b :: argsL).toArray) :
    (∃ (v : Option Value) (vm₁ : Vm) (B : Pt), s.WarmedH vm₁ ∧ Stand p l e R s m args below meth c B.U B.locs B.cells B.slots ∧ Post ⟨T.setVm vm₁, locs, cells, slots⟩ (Value.ref b :: argsL).toArray v B ∧
      ∀ target, Steps p.tables e below (B.U.setTop { g with pc := g.pc + 3, stack := v.toList ++ rest }) target → Steps p.tables e below (T.setTop g) target) ∨
    (∃ (q : Addr) (vm₁ : Vm) (B : Pt), s.WarmedH vm₁ ∧ Stand p l e R s m args below meth c B.U B.locs B.cells B.slots ∧ PostX ⟨T.setVm vm₁, locs, cells, slots⟩ (Value.ref b :: argsL).toArray q B ∧
      Steps p.tables e below (T.setTop g) ((B.U.setTop { g with stack := rest }).pushFrame (.throwing q))) := by
  obtain ⟨mk, methM, hnamed, hmethM, hstM, habM⟩ := Cond.instanceMethod_spec hinst
  obtain ⟨methM', cM, hmethM', -, -, -, -, -, -, hsigM⟩ := Cond.code_spec hnamed hcode
  cases hmethM.symm.trans hmethM'
  obtain ⟨c2, r2, m2, q1, q2, q3, q4, kP, hkP, hkPi⟩ := Cond.selects_spec hsel
  cases hcls.symm.trans q1
  cases (State.methodFound?_of_named hnamed hy).symm.trans q2
  cases hnamed.symm.trans q3
  have hselP : selectMethod e.platform s.vm cellB.cls mk = .method mk := by rw [Launch.admits_selectMethod X.admits]; exact q4
  obtain ⟨vm₁, X₁, hstep₁⟩ := X.invokevirtual hexec hown hlink hnamed hmethM hstM hkP hkPi hy (a := b) (cell := cellB) hcell
    (fun z h => by rw [h] at hobj; cases hobj) hselP hmethM habM hkP hkPi (g := g) hg (argsL := argsL) (rest := rest) (hlen _ hsigM) hstack hdg
  rcases hK m meth c ⟨T.setVm vm₁, locs, cells, slots⟩ { g with stack := rest } (.invokevirtual index) mk (Value.ref b :: argsL).toArray X₁ hg hsize hdg hW (X₁.named hnamed) (hpre vm₁ X₁.warmed) with ⟨v, B, X', hpost, hsteps⟩ | ⟨q, B, X', hpost, hsteps⟩
  · exact Or.inl ⟨v, vm₁, B, X₁.warmed, X', hpost, fun target h => hstep₁ _ fun acts => by rw [doInvoke_state]; exact hsteps.trans h⟩
  · exact Or.inr ⟨q, vm₁, B, X₁.warmed, X', hpost, hstep₁ _ fun acts => by rw [doInvoke_state]; exact hsteps⟩
theorem vx_callS (X : Stand p l e R s m args below meth c T locs cells slots) (hexec : p.tables.exec = Jvm.exec) {own : String} {index : Nat} {y : MethodName} {bytes : ByteArray} {maxL : Nat} {ret : Option FieldType}
    (hown : s.vm.findClass own = some m.cls) (hlink : (Cond.methodLink own index y).before args s = true) (hstat : (Cond.static y).before args s = true) (hinit : (Cond.initialized y.cls).before args s = true)
    (hcode : (Cond.code y bytes maxL ret).before args s = true) (hy : y.cls ≠ "java/lang/invoke/MethodHandle" ∧ y.cls ≠ "java/lang/invoke/VarHandle")
    {W9 : Nat} {Pre : Pt → Array Value → Prop} {Post : Pt → Array Value → Option Value → Pt → Prop} {PostX : Pt → Array Value → Addr → Pt → Prop} (hK : vx_Back l R p e below s args y 3 W9 Pre Post PostX)
    {g : JFrame} (hg : g.method = m) (hsize : g.locals.size = c.maxLocals) {argsL rest : List Value} (hlen : ∀ sig, parseMethodDescriptor y.desc = some sig → argsL.length = sig.parameters.length)
    (hstack : g.stack = argsL.reverse ++ rest) (hW : 2 * g.monitorRoom + (rest.map fun v => v.category).sum ≤ W9) (hdg : decode c.code g.pc = .ok (.invokestatic index, 3))
    (hpre : ∀ vm₁, s.WarmedH vm₁ → Pre ⟨T.setVm vm₁, locs, cells, slots⟩ argsL.toArray) :
    (∃ (v : Option Value) (vm₁ : Vm) (B : Pt), s.WarmedH vm₁ ∧ Stand p l e R s m args below meth c B.U B.locs B.cells B.slots ∧ Post ⟨T.setVm vm₁, locs, cells, slots⟩ argsL.toArray v B ∧
      ∀ target, Steps p.tables e below (B.U.setTop { g with pc := g.pc + 3, stack := v.toList ++ rest }) target → Steps p.tables e below (T.setTop g) target) ∨
    (∃ (q : Addr) (vm₁ : Vm) (B : Pt), s.WarmedH vm₁ ∧ Stand p l e R s m args below meth c B.U B.locs B.cells B.slots ∧ PostX ⟨T.setVm vm₁, locs, cells, slots⟩ argsL.toArray q B ∧
      Steps p.tables e below (T.setTop g) ((B.U.setTop { g with stack := rest }).pushFrame (.throwing q))) := by
  obtain ⟨mk, hnamed⟩ := Cond.code_named hcode
  obtain ⟨methM, cM, hmethM, -, -, -, -, -, -, hsigM⟩ := Cond.code_spec hnamed hcode
  have hstatic : methM.isStatic = true := Cond.static_spec hnamed hmethM hstat
  obtain ⟨kP, hkP, -⟩ := className_of_methodNamed hnamed
  have hinitP : kP.init = .initialized := Cond.initialized_spec (findClass_of_methodNamed hnamed) hkP hinit
  obtain ⟨vm₁, X₁, hstep₁⟩ := X.invokestatic hexec hown hlink hnamed hmethM hstatic hkP hinitP hy (g := g) hg (argsL := argsL) (rest := rest) (hlen _ hsigM) hstack hdg
  rcases hK m meth c ⟨T.setVm vm₁, locs, cells, slots⟩ { g with stack := rest } (.invokestatic index) mk argsL.toArray X₁ hg hsize hdg hW (X₁.named hnamed) (hpre vm₁ X₁.warmed) with ⟨v, B, X', hpost, hsteps⟩ | ⟨q, B, X', hpost, hsteps⟩
  · exact Or.inl ⟨v, vm₁, B, X₁.warmed, X', hpost, fun target h => hstep₁ _ fun acts => by rw [doInvoke_state]; exact hsteps.trans h⟩
  · exact Or.inr ⟨q, vm₁, B, X₁.warmed, X', hpost, hstep₁ _ fun acts => by rw [doInvoke_state]; exact hsteps⟩
end Calls
theorem vx_cls {s : State} {T : State} {vm₁ : Vm} {E : String} {k : ClassId} (hW : s.WarmedH vm₁) (h : (T.setVm vm₁).vm.findClass E = some k) : s.vm.findClass E = some k := by
  have h1 : vm₁.findClass E = some k := h
  rw [hW.alike.findClass] at h1
  exact h1
/-- the method's frame g, with q thrown over it -/
def vx_W (p : Program) (l : Launch) (e : Env) (R : Room) (s : State) (m : MethodId) (args : Array Value) (below : List Frame) (meth : Method) (c : Code) (H : Heap) (locs : List Loc) (cells slots : Nat) (Q : State → Prop) (g : JFrame) (q : Addr) : Prop :=
  ∀ T : State, T.heap = H → Stand p l e R s m args below meth c T locs cells slots → ∃ t, Steps p.tables e below ((T.setTop g).pushFrame (.throwing q)) t ∧ Q t
def vx_Run (p : Program) (l : Launch) (e : Env) (R : Room) (s : State) (m : MethodId) (args : Array Value) (below : List Frame) (meth : Method) (c : Code) (H : Heap) (locs : List Loc) (cells slots mc ms : Nat) (g : JFrame) (rest : List Value) (Qa : State → Outcome → State → Prop) (XC : String → State → State → Prop) (free : Addr → Prop) : Prop :=
  ∀ T : State, T.heap = H → Stand p l e R s m args below meth c T locs cells slots →
    (∃ (v : Option Value) (st₀ t T' : State) (L : List Loc), st₀.heap = H ∧ Stand p l e R s m args below meth c T' (locs ++ L) (cells + mc) (slots + ms) ∧ (∀ q ∈ L, free q.base) ∧ T'.heap = t.heap ∧ T'.vm = t.vm ∧ Qa st₀ (.returned v) t ∧
      Goes p e below T g T' { g with pc := g.pc + 3, stack := v.toList ++ rest }) ∨
    (∃ (q : Addr) (st₀ t T' : State) (L : List Loc) (E : String) (ce : Cell), st₀.heap = H ∧ Stand p l e R s m args below meth c T' (locs ++ L) (cells + mc) (slots + ms) ∧ (∀ z ∈ L, free z.base) ∧ T'.heap = t.heap ∧ T'.vm = t.vm ∧ XC E st₀ t ∧ t.heap[q]? = some ce ∧ ce.vm = .none ∧ s.vm.findClass E = some ce.cls ∧
      Steps p.tables e below (T.setTop g) ((T'.setTop { g with stack := rest }).pushFrame (.throwing q)))
def vx_X {S : Type} (px : S → Prop) (B : String → S → State → Prop) (A : Nat → Prop) : String → State → State → Prop := fun E st t => ∃ u : S, px u ∧ B E u t ∧ va_F A st t
section Runs
variable {p : Program} {l : Launch} {e : Env} {R : Room} {s : State} {m : MethodId} {args : Array Value} {below : List Frame} {meth : Method} {c : Code} {H : Heap} {locs : List Loc} {cells slots : Nat}
variable {y : MethodName} {bytes cc : ByteArray} {maxL nL mc ms n index : Nat} {ret : Option FieldType} {ws : List Cond} {rm : Room} {Pc : Array Value → State → Prop} {Qc : Array Value → State → Outcome → State → Prop} {XC : String → State → State → Prop} {free : Addr → Prop} {Ts : List Cond} {own C : String} {b : Addr} {As rest : List Value} {g : JFrame}
theorem vx_callBack (cb : CallB R s args own index y bytes maxL ret ws rm mc ms n) (hM : vx_Met l y ws rm Pc Qc XC mc ms free) (hbl : FrameBlind Pc) : vx_Back l R p e below s args y 3 8 (PreOf R mc ms Pc) (PostOf Qc mc ms free) (vx_Post XC mc ms free) := by
  obtain ⟨hrc, hrs, hfr, hlo, hws, hcw, -, hini, -⟩ := cb
  exact vx_back (bytes := bytes) (maxL := maxL) (ret := ret) hM hbl hrc hrs hfr hlo hws hcw (fun a' U hW => word_at hW (Or.inl (by first | rfl | simp [Cond.onTables, Cond.keeps, Cond.steady])) hini)
theorem vx_runV (S : CallFix p m c cc nL s args Ts own) (hM : vx_Met l y ws rm Pc Qc XC mc ms free) (cw : CallW R s args own C index y bytes maxL ret ws rm mc ms n) (hp : PreV s H C b Pc As)
    (hg : g.method = m) (hn : As.length = n) (hsize : g.locals.size = nL) (hstack : g.stack = As.reverse ++ .ref b :: rest) (hW : 2 * g.monitorRoom + (rest.map fun v => v.category).sum ≤ 8) (hdg : decode cc g.pc = .ok (.invokevirtual index, 3)) (hf : cells + mc ≤ R.cells ∧ slots + ms ≤ R.slots) :
    vx_Run p l e R s m args below meth c H locs cells slots mc ms g rest (Qc (Value.ref b :: As).toArray) XC free := by
  have hK : vx_Back l R p e below s args y 3 8 (PreOf R mc ms Pc) (PostOf Qc mc ms free) (vx_Post XC mc ms free) := vx_callBack cw.1 hM hp.1
  obtain ⟨⟨-, -, -, -, -, -, hcode, -, hy, hlen, hl⟩, hin, hse⟩ := cw
  obtain ⟨hx, hb, hml, ho, -⟩ := S
  obtain ⟨-, ⟨cellB, hcB, hoB, hclB⟩, hPc⟩ := hp
  intro T hT X
  rcases vx_callV X hx (C := C) (bytes := bytes) (maxL := maxL) (ret := ret) ho hl hin hse hcode hy hK (by rw [hT]; exact hcB) hoB hclB hg (hsize.trans hml.symm) (argsL := As) (rest := rest) (fun sig h => hn.trans (hlen sig h)) hstack hW (by rw [hb]; exact hdg)
    (fun vm₁ hW₁ => ⟨hf.1, hf.2, hPc (T.setVm vm₁) hT hW₁⟩) with ⟨v, vm₁, ⟨U', l2, c2, s2⟩, hW₁, X', ⟨g', mk, t, L, e1, e2, hq, h1, hL, h2, h3⟩, st⟩ | ⟨q, vm₁, ⟨U', l2, c2, s2⟩, hW₁, X', ⟨g', mk, t, L, E, ce, e1, e2, hq, hce, hcv, hcl, h1, hL, h2, h3⟩, st⟩
  · dsimp only [Pt.U, Pt.locs, Pt.cells, Pt.slots] at X' e1 e2 h1 h2 h3 st
    subst h1; subst h2; subst h3
    exact Or.inl ⟨v, (T.setVm vm₁).calling g' mk (Value.ref b :: As).toArray, t, U', L, hT, X', hL, e1, e2, hq, st⟩
  · dsimp only [Pt.U, Pt.locs, Pt.cells, Pt.slots] at X' e1 e2 h1 h2 h3 st hcl
    subst h1; subst h2; subst h3
    exact Or.inr ⟨q, (T.setVm vm₁).calling g' mk (Value.ref b :: As).toArray, t, U', L, E, ce, hT, X', hL, e1, e2, hq, hce, hcv, vx_cls hW₁ hcl, st⟩
theorem vx_runS (S : CallFix p m c cc nL s args Ts own) (hM : vx_Met l y ws rm Pc Qc XC mc ms free) (cw : CallB R s args own index y bytes maxL ret ws rm mc ms n ∧ (Cond.static y).before args s = true) (hp : PreS s H Pc As)
    (hg : g.method = m) (hn : As.length = n) (hsize : g.locals.size = nL) (hstack : g.stack = As.reverse ++ rest) (hW : 2 * g.monitorRoom + (rest.map fun v => v.category).sum ≤ 8) (hdg : decode cc g.pc = .ok (.invokestatic index, 3)) (hf : cells + mc ≤ R.cells ∧ slots + ms ≤ R.slots) :
    vx_Run p l e R s m args below meth c H locs cells slots mc ms g rest (Qc As.toArray) XC free := by
  have hK : vx_Back l R p e below s args y 3 8 (PreOf R mc ms Pc) (PostOf Qc mc ms free) (vx_Post XC mc ms free) := vx_callBack cw.1 hM hp.1
  obtain ⟨⟨-, -, -, -, -, -, hcode, hini, hy, hlen, hl⟩, hstt⟩ := cw
  obtain ⟨hx, hb, hml, ho, -⟩ := S
  intro T hT X
  rcases vx_callS X hx (bytes := bytes) (maxL := maxL) (ret := ret) ho hl hstt hini hcode hy hK hg (hsize.trans hml.symm) (argsL := As) (rest := rest) (fun sig h => hn.trans (hlen sig h)) hstack hW (by rw [hb]; exact hdg)
    (fun vm₁ hW₁ => ⟨hf.1, hf.2, hp.2 (T.setVm vm₁) hT hW₁⟩) with ⟨v, vm₁, ⟨U', l2, c2, s2⟩, hW₁, X', ⟨g', mk, t, L, e1, e2, hq, h1, hL, h2, h3⟩, st⟩ | ⟨q, vm₁, ⟨U', l2, c2, s2⟩, hW₁, X', ⟨g', mk, t, L, E, ce, e1, e2, hq, hce, hcv, hcl, h1, hL, h2, h3⟩, st⟩
  · dsimp only [Pt.U, Pt.locs, Pt.cells, Pt.slots] at X' e1 e2 h1 h2 h3 st
    subst h1; subst h2; subst h3
    exact Or.inl ⟨v, (T.setVm vm₁).calling g' mk As.toArray, t, U', L, hT, X', hL, e1, e2, hq, st⟩
  · dsimp only [Pt.U, Pt.locs, Pt.cells, Pt.slots] at X' e1 e2 h1 h2 h3 st hcl
    subst h1; subst h2; subst h3
    exact Or.inr ⟨q, (T.setVm vm₁).calling g' mk As.toArray, t, U', L, E, ce, hT, X', hL, e1, e2, hq, hce, hcv, vx_cls hW₁ hcl, st⟩
end Runs
section Rows
variable {p : Program} {l : Launch} {e : Env} {R : Room} {s : State} {m : MethodId} {args : Array Value} {below : List Frame} {meth : Method} {c : Code} {H : Heap} {locs : List Loc} {cells slots : Nat} {Q : State → Prop}
variable {mc ms : Nat} {free : Addr → Prop} {A0 A1 : Nat → Prop} {H0 : Heap} {a : Array Value} {pc : Nat} {ls : Array Slot} {st0 rest : List Value}
theorem vx_keep {st₀ t T' : State} {L : List Loc} (h0 : st₀.heap = H) (e1 : T'.heap = t.heap) (hS : va_S A0 H0 H locs) (hA : ∀ q, q < H.size → A1 q → A0 q) (hf : ∀ q, free q → A0 q) (hL : ∀ q ∈ L, free q.base) (hF : va_F A1 st₀ t) :
    H.size ≤ T'.heap.size ∧ (∀ q : Nat, q < H.size → ¬ A1 q → T'.heap[q]? = H[q]?) ∧ va_S A0 H0 T'.heap (locs ++ L) := by
  obtain ⟨hz, hk⟩ := hF
  rw [h0] at hz hk
  exact ⟨by rw [e1]; exact hz, fun q h1 h2 => by rw [e1]; exact hk q h1 h2,
    ⟨Nat.le_trans hS.1 (by rw [e1]; exact hz), fun q h1 h2 => by rw [e1, hk q (Nat.lt_of_lt_of_le h1 hS.1) (fun z => h2 (hA q (Nat.lt_of_lt_of_le h1 hS.1) z))]; exact hS.2.1 q h1 h2, fun q hq => by
      rcases List.mem_append.mp hq with h | h
      · exact hS.2.2 q h
      · exact hf _ (hL q h)⟩⟩
theorem vx_calli {S SX : Type} {post : Int32 → S → Prop} {px : SX → Prop} {B : S → State → Prop} {BX : String → SX → State → Prop} {AX : Nat → Prop} (hr : vx_Run p l e R s m args below meth c H locs cells slots mc ms (F0 m pc ls st0) rest (va_Qi post B A1 a) (vx_X px BX AX) free) (hS : va_S A0 H0 H locs) (hA : ∀ q, q < H.size → A1 q → A0 q) (hf : ∀ q, free q → A0 q) (hAX : ∀ q, q < H.size → AX q → A0 q)
    (kx : ∀ (E : String) (ce : Cell) (q9 : Addr) (u : SX) (t : State) (H1 : Heap) (locs1 : List Loc), t.heap = H1 → s.vm.Alike t.vm → px u → BX E u t → H.size ≤ H1.size → (∀ q : Nat, q < H.size → ¬ AX q → H1[q]? = H[q]?) → va_S A0 H0 H1 locs1 → H1[q9]? = some ce → ce.vm = .none → s.vm.findClass E = some ce.cls → vx_W p l e R s m args below meth c H1 locs1 (cells + mc) (slots + ms) Q (F0 m pc ls rest) q9)
    (kk : ∀ (r : Int32) (u : S) (t : State) (H1 : Heap) (locs1 : List Loc), t.heap = H1 → s.vm.Alike t.vm → post r u → B u t → H.size ≤ H1.size → (∀ q : Nat, q < H.size → ¬ A1 q → H1[q]? = H[q]?) → va_S A0 H0 H1 locs1 → W p l e R s m args below meth c H1 locs1 (cells + mc) (slots + ms) Q (F0 m (pc + 3) ls (.int r :: rest))) : W p l e R s m args below meth c H locs cells slots Q (F0 m pc ls st0) := by
  intro T hT X
  rcases hr T hT X with ⟨v, st₀, t, T', L, h0, X', hL, e1, e2, ⟨⟨r, u, hv, hp, hb⟩, hF⟩, st⟩ | ⟨q, st₀, t, T', L, E, ce, h0, X', hL, e1, e2, ⟨u, hp, hb, hF⟩, hce, hcv, hcl, st⟩
  · cases hv
    obtain ⟨k1, k2, k3⟩ := vx_keep h0 e1 hS hA hf hL hF
    obtain ⟨t2, a1, b1⟩ := kk r u t T'.heap (locs ++ L) e1.symm (by rw [← e2]; exact X'.warmed.alike) hp hb k1 k2 k3 T' rfl X'
    exact ⟨t2, st t2 a1, b1⟩
  · obtain ⟨k1, k2, k3⟩ := vx_keep h0 e1 hS hAX hf hL hF
    obtain ⟨t2, a1, b1⟩ := kx E ce q u t T'.heap (locs ++ L) e1.symm (by rw [← e2]; exact X'.warmed.alike) hp hb k1 k2 k3 (by rw [e1]; exact hce) hcv hcl T' rfl X'
    exact ⟨t2, st.trans a1, b1⟩
theorem vx_calll {S SX : Type} {post : Int64 → S → Prop} {px : SX → Prop} {B : S → State → Prop} {BX : String → SX → State → Prop} {AX : Nat → Prop} (hr : vx_Run p l e R s m args below meth c H locs cells slots mc ms (F0 m pc ls st0) rest (va_Ql post B A1 a) (vx_X px BX AX) free) (hS : va_S A0 H0 H locs) (hA : ∀ q, q < H.size → A1 q → A0 q) (hf : ∀ q, free q → A0 q) (hAX : ∀ q, q < H.size → AX q → A0 q)
    (kx : ∀ (E : String) (ce : Cell) (q9 : Addr) (u : SX) (t : State) (H1 : Heap) (locs1 : List Loc), t.heap = H1 → s.vm.Alike t.vm → px u → BX E u t → H.size ≤ H1.size → (∀ q : Nat, q < H.size → ¬ AX q → H1[q]? = H[q]?) → va_S A0 H0 H1 locs1 → H1[q9]? = some ce → ce.vm = .none → s.vm.findClass E = some ce.cls → vx_W p l e R s m args below meth c H1 locs1 (cells + mc) (slots + ms) Q (F0 m pc ls rest) q9)
    (kk : ∀ (r : Int64) (u : S) (t : State) (H1 : Heap) (locs1 : List Loc), t.heap = H1 → s.vm.Alike t.vm → post r u → B u t → H.size ≤ H1.size → (∀ q : Nat, q < H.size → ¬ A1 q → H1[q]? = H[q]?) → va_S A0 H0 H1 locs1 → W p l e R s m args below meth c H1 locs1 (cells + mc) (slots + ms) Q (F0 m (pc + 3) ls (.long r :: rest))) : W p l e R s m args below meth c H locs cells slots Q (F0 m pc ls st0) := by
  intro T hT X
  rcases hr T hT X with ⟨v, st₀, t, T', L, h0, X', hL, e1, e2, ⟨⟨r, u, hv, hp, hb⟩, hF⟩, st⟩ | ⟨q, st₀, t, T', L, E, ce, h0, X', hL, e1, e2, ⟨u, hp, hb, hF⟩, hce, hcv, hcl, st⟩
  · cases hv
    obtain ⟨k1, k2, k3⟩ := vx_keep h0 e1 hS hA hf hL hF
    obtain ⟨t2, a1, b1⟩ := kk r u t T'.heap (locs ++ L) e1.symm (by rw [← e2]; exact X'.warmed.alike) hp hb k1 k2 k3 T' rfl X'
    exact ⟨t2, st t2 a1, b1⟩
  · obtain ⟨k1, k2, k3⟩ := vx_keep h0 e1 hS hAX hf hL hF
    obtain ⟨t2, a1, b1⟩ := kx E ce q u t T'.heap (locs ++ L) e1.symm (by rw [← e2]; exact X'.warmed.alike) hp hb k1 k2 k3 (by rw [e1]; exact hce) hcv hcl T' rfl X'
    exact ⟨t2, st.trans a1, b1⟩
theorem vx_callf {S SX : Type} {post : UInt32 → S → Prop} {px : SX → Prop} {B : S → State → Prop} {BX : String → SX → State → Prop} {AX : Nat → Prop} (hr : vx_Run p l e R s m args below meth c H locs cells slots mc ms (F0 m pc ls st0) rest (va_Qf post B A1 a) (vx_X px BX AX) free) (hS : va_S A0 H0 H locs) (hA : ∀ q, q < H.size → A1 q → A0 q) (hf : ∀ q, free q → A0 q) (hAX : ∀ q, q < H.size → AX q → A0 q)
    (kx : ∀ (E : String) (ce : Cell) (q9 : Addr) (u : SX) (t : State) (H1 : Heap) (locs1 : List Loc), t.heap = H1 → s.vm.Alike t.vm → px u → BX E u t → H.size ≤ H1.size → (∀ q : Nat, q < H.size → ¬ AX q → H1[q]? = H[q]?) → va_S A0 H0 H1 locs1 → H1[q9]? = some ce → ce.vm = .none → s.vm.findClass E = some ce.cls → vx_W p l e R s m args below meth c H1 locs1 (cells + mc) (slots + ms) Q (F0 m pc ls rest) q9)
    (kk : ∀ (r : UInt32) (u : S) (t : State) (H1 : Heap) (locs1 : List Loc), t.heap = H1 → s.vm.Alike t.vm → post r u → B u t → H.size ≤ H1.size → (∀ q : Nat, q < H.size → ¬ A1 q → H1[q]? = H[q]?) → va_S A0 H0 H1 locs1 → W p l e R s m args below meth c H1 locs1 (cells + mc) (slots + ms) Q (F0 m (pc + 3) ls (.float r :: rest))) : W p l e R s m args below meth c H locs cells slots Q (F0 m pc ls st0) := by
  intro T hT X
  rcases hr T hT X with ⟨v, st₀, t, T', L, h0, X', hL, e1, e2, ⟨⟨r, u, hv, hp, hb⟩, hF⟩, st⟩ | ⟨q, st₀, t, T', L, E, ce, h0, X', hL, e1, e2, ⟨u, hp, hb, hF⟩, hce, hcv, hcl, st⟩
  · cases hv
    obtain ⟨k1, k2, k3⟩ := vx_keep h0 e1 hS hA hf hL hF
    obtain ⟨t2, a1, b1⟩ := kk r u t T'.heap (locs ++ L) e1.symm (by rw [← e2]; exact X'.warmed.alike) hp hb k1 k2 k3 T' rfl X'
    exact ⟨t2, st t2 a1, b1⟩
  · obtain ⟨k1, k2, k3⟩ := vx_keep h0 e1 hS hAX hf hL hF
    obtain ⟨t2, a1, b1⟩ := kx E ce q u t T'.heap (locs ++ L) e1.symm (by rw [← e2]; exact X'.warmed.alike) hp hb k1 k2 k3 (by rw [e1]; exact hce) hcv hcl T' rfl X'
    exact ⟨t2, st.trans a1, b1⟩
theorem vx_calld {S SX : Type} {post : UInt64 → S → Prop} {px : SX → Prop} {B : S → State → Prop} {BX : String → SX → State → Prop} {AX : Nat → Prop} (hr : vx_Run p l e R s m args below meth c H locs cells slots mc ms (F0 m pc ls st0) rest (va_Qd post B A1 a) (vx_X px BX AX) free) (hS : va_S A0 H0 H locs) (hA : ∀ q, q < H.size → A1 q → A0 q) (hf : ∀ q, free q → A0 q) (hAX : ∀ q, q < H.size → AX q → A0 q)
    (kx : ∀ (E : String) (ce : Cell) (q9 : Addr) (u : SX) (t : State) (H1 : Heap) (locs1 : List Loc), t.heap = H1 → s.vm.Alike t.vm → px u → BX E u t → H.size ≤ H1.size → (∀ q : Nat, q < H.size → ¬ AX q → H1[q]? = H[q]?) → va_S A0 H0 H1 locs1 → H1[q9]? = some ce → ce.vm = .none → s.vm.findClass E = some ce.cls → vx_W p l e R s m args below meth c H1 locs1 (cells + mc) (slots + ms) Q (F0 m pc ls rest) q9)
    (kk : ∀ (r : UInt64) (u : S) (t : State) (H1 : Heap) (locs1 : List Loc), t.heap = H1 → s.vm.Alike t.vm → post r u → B u t → H.size ≤ H1.size → (∀ q : Nat, q < H.size → ¬ A1 q → H1[q]? = H[q]?) → va_S A0 H0 H1 locs1 → W p l e R s m args below meth c H1 locs1 (cells + mc) (slots + ms) Q (F0 m (pc + 3) ls (.double r :: rest))) : W p l e R s m args below meth c H locs cells slots Q (F0 m pc ls st0) := by
  intro T hT X
  rcases hr T hT X with ⟨v, st₀, t, T', L, h0, X', hL, e1, e2, ⟨⟨r, u, hv, hp, hb⟩, hF⟩, st⟩ | ⟨q, st₀, t, T', L, E, ce, h0, X', hL, e1, e2, ⟨u, hp, hb, hF⟩, hce, hcv, hcl, st⟩
  · cases hv
    obtain ⟨k1, k2, k3⟩ := vx_keep h0 e1 hS hA hf hL hF
    obtain ⟨t2, a1, b1⟩ := kk r u t T'.heap (locs ++ L) e1.symm (by rw [← e2]; exact X'.warmed.alike) hp hb k1 k2 k3 T' rfl X'
    exact ⟨t2, st t2 a1, b1⟩
  · obtain ⟨k1, k2, k3⟩ := vx_keep h0 e1 hS hAX hf hL hF
    obtain ⟨t2, a1, b1⟩ := kx E ce q u t T'.heap (locs ++ L) e1.symm (by rw [← e2]; exact X'.warmed.alike) hp hb k1 k2 k3 (by rw [e1]; exact hce) hcv hcl T' rfl X'
    exact ⟨t2, st.trans a1, b1⟩
theorem vx_callv {S SX : Type} {post : S → Prop} {px : SX → Prop} {B : S → State → Prop} {BX : String → SX → State → Prop} {AX : Nat → Prop} (hr : vx_Run p l e R s m args below meth c H locs cells slots mc ms (F0 m pc ls st0) rest (va_Qv post B A1 a) (vx_X px BX AX) free) (hS : va_S A0 H0 H locs) (hA : ∀ q, q < H.size → A1 q → A0 q) (hf : ∀ q, free q → A0 q) (hAX : ∀ q, q < H.size → AX q → A0 q)
    (kx : ∀ (E : String) (ce : Cell) (q9 : Addr) (u : SX) (t : State) (H1 : Heap) (locs1 : List Loc), t.heap = H1 → s.vm.Alike t.vm → px u → BX E u t → H.size ≤ H1.size → (∀ q : Nat, q < H.size → ¬ AX q → H1[q]? = H[q]?) → va_S A0 H0 H1 locs1 → H1[q9]? = some ce → ce.vm = .none → s.vm.findClass E = some ce.cls → vx_W p l e R s m args below meth c H1 locs1 (cells + mc) (slots + ms) Q (F0 m pc ls rest) q9)
    (kk : ∀ (u : S) (t : State) (H1 : Heap) (locs1 : List Loc), t.heap = H1 → s.vm.Alike t.vm → post u → B u t → H.size ≤ H1.size → (∀ q : Nat, q < H.size → ¬ A1 q → H1[q]? = H[q]?) → va_S A0 H0 H1 locs1 → W p l e R s m args below meth c H1 locs1 (cells + mc) (slots + ms) Q (F0 m (pc + 3) ls (rest))) : W p l e R s m args below meth c H locs cells slots Q (F0 m pc ls st0) := by
  intro T hT X
  rcases hr T hT X with ⟨v, st₀, t, T', L, h0, X', hL, e1, e2, ⟨⟨u, hv, hp, hb⟩, hF⟩, st⟩ | ⟨q, st₀, t, T', L, E, ce, h0, X', hL, e1, e2, ⟨u, hp, hb, hF⟩, hce, hcv, hcl, st⟩
  · cases hv
    obtain ⟨k1, k2, k3⟩ := vx_keep h0 e1 hS hA hf hL hF
    obtain ⟨t2, a1, b1⟩ := kk u t T'.heap (locs ++ L) e1.symm (by rw [← e2]; exact X'.warmed.alike) hp hb k1 k2 k3 T' rfl X'
    exact ⟨t2, st t2 a1, b1⟩
  · obtain ⟨k1, k2, k3⟩ := vx_keep h0 e1 hS hAX hf hL hF
    obtain ⟨t2, a1, b1⟩ := kx E ce q u t T'.heap (locs ++ L) e1.symm (by rw [← e2]; exact X'.warmed.alike) hp hb k1 k2 k3 (by rw [e1]; exact hce) hcv hcl T' rfl X'
    exact ⟨t2, st.trans a1, b1⟩
/-- caught by the row x of this method's table; the rows ahead don't take it -/
theorem vx_catch {own name : String} {E : String} {ce : Cell} {q : Addr} (hown : s.vm.findClass own = some m.cls) (pre : List ExceptionTableEntry) (x : ExceptionTableEntry) (suf : List ExceptionTableEntry) (hsplit : c.exceptionTable.toList = pre ++ x :: suf)
    (hpass : ∀ z ∈ pre, covers z pc = false ∨ (z.catchType ≠ 0 ∧ ∃ nm : String, (Cond.classLink own z.catchType nm).before args s = true ∧ va_Nc E nm s)) (hx : covers x pc = true) (h0 : x.catchType ≠ 0)
    (hlink : (Cond.classLink own x.catchType name).before args s = true) (hcast : (Cond.castable E name).before args s = true) (hcell : H[q]? = some ce) (hv : ce.vm = .none) (hcl : s.vm.findClass E = some ce.cls)
    (kk : W p l e R s m args below meth c H locs cells slots Q (F0 m x.handlerPc ls [.ref q])) : vx_W p l e R s m args below meth c H locs cells slots Q (F0 m pc ls rest) q := by
  intro T hT X
  have hpl : e.platform.magicAccessors = ({} : Platform).magicAccessors := by rw [X.admits.platform]
  obtain ⟨c3, c4, hc3, hc4, hasg⟩ := Cond.castable_spec hcast
  cases Option.some.inj (hc3.symm.trans hcl)
  obtain ⟨c5, hc5, hcl5⟩ := Cond.classLink_spec hown hlink e.platform hpl
  cases Option.some.inj (hc4.symm.trans hc5)
  obtain ⟨vm', X', st⟩ := X.thenCaughtThrough q (g := F0 m pc ls rest) rfl (Steps.refl _) (by rw [hT]; exact hcell) (by rw [hv]; rfl) (by obtain ⟨k9, h9, -⟩ := Vm.findClass_spec hcl; exact ⟨k9, h9⟩) pre x suf hsplit
    (fun z hz => by
      rcases hpass z hz with h | ⟨hz0, nm, hl1, hn1⟩
      · exact Or.inl h
      · obtain ⟨c6, hc6, hcl6⟩ := Cond.classLink_spec hown hl1 e.platform hpl
        obtain ⟨a8, b8, h1, h2, h3⟩ := hn1
        cases Option.some.inj (h1.symm.trans hcl)
        cases Option.some.inj (h2.symm.trans hc6)
        exact Or.inr ⟨hz0, _, hcl6, h3⟩) hx (Or.inr ⟨h0, c4, hcl5, hasg⟩)
  obtain ⟨t, a1, b1⟩ := kk (T.setVm vm') hT X'
  exact ⟨t, st.trans a1, b1⟩
end Rows
section Ends
variable {p : Program} {l : Launch} {e : Env} {R : Room} {s : State} {m : MethodId} {args : Array Value} {below : List Frame} {meth : Method} {c : Code} {H : Heap} {locs : List Loc} {cells slots : Nat} {Q : State → Prop}
variable {mc ms : Nat} {free : Addr → Prop} {A0 A1 : Nat → Prop} {H0 : Heap} {a : Array Value} {ls : Array Slot} {st0 rest : List Value}
variable {Qc : Array Value → State → Outcome → State → Prop} {XC : String → State → State → Prop}
/-- what a body that may throw owes at its end -/
def vx_MQ (below : List Frame) (Qc : Array Value → State → Outcome → State → Prop) (XC : String → State → State → Prop) (a : Array Value) (s : State) (mc ms : Nat) (free : Addr → Prop) : State → Prop := fun t =>
  ∃ o, t.status = .running ∧ Ended t below o ∧ vx_Q Qc XC mc ms free a s o t
theorem vx_ret {g : JFrame} {mc ms : Nat} (k : W p l e R s m args below meth c H locs cells slots (MQ below Qc args s mc ms free) g) : W p l e R s m args below meth c H locs cells slots (vx_MQ below Qc XC args s mc ms free) g := by
  intro T hT X
  obtain ⟨t, a1, o, b1, b2, b3, b4⟩ := k T hT X
  exact ⟨t, a1, o, b1, b2, Or.inl ⟨b3, b4⟩⟩
/-- not caught here: it goes on to the caller -/
theorem vx_widen {g : JFrame} {q : Addr} {k n : Nat} (h1 : cells ≤ k) (h2 : slots ≤ n) (kk : vx_W p l e R s m args below meth c H locs k n Q g q) : vx_W p l e R s m args below meth c H locs cells slots Q g q := fun T hT X => kk T hT (stand_widen X h1 h2)
theorem vx_out {pc : Nat} {E : String} {ce : Cell} {q : Addr} {mc ms : Nat} (hout : ∀ x ∈ c.exceptionTable.toList, covers x pc = false) (hlocks : meth.locks = false) (hcell : H[q]? = some ce) (hv : ce.vm = .none) (hcl : s.vm.findClass E = some ce.cls)
    (hx : ∀ t : State, t.heap = H → s.vm.Alike t.vm → XC E s t) (hf : ∀ z ∈ locs, free z.base) (hc : cells ≤ mc) (hs : slots ≤ ms) :
    vx_W p l e R s m args below meth c H locs cells slots (vx_MQ below Qc XC args s mc ms free) (F0 m pc ls rest) q := by
  intro T hT X
  obtain ⟨st1, hrun, hend, hW, hsm⟩ := X.leaveThrown q (g := F0 m pc ls rest) rfl rfl rfl hout hlocks
  have hcell9 : (T.setFrames (.throwing q :: below)).heap[q]? = some ce := by
    show T.heap[q]? = some ce
    rw [hT]; exact hcell
  exact ⟨_, st1, .threw q, hrun, hend, Or.inr ⟨q, rfl, E, ce, locs, hx _ hT hW.alike, hcell9, hv, hcl, hW, hsm.mono hc hs, hf⟩⟩
theorem vx_frame {U : State} {k n : Nat} (h : s.sameButNew ({ U with vm := s.vm } : State) locs k n) : s.heap.size ≤ U.heap.size ∧ ∀ q : Nat, q < s.heap.size → (∀ z ∈ locs, z.base ≠ q) → U.heap[q]? = s.heap[q]? := by
  obtain ⟨-, h2, -, -, -, h6⟩ := h
  refine ⟨h2, fun q hq hz => ?_⟩
  obtain ⟨c9, e1, e2, e3, e4⟩ := h6 q _ (Array.getElem?_eq_getElem hq)
  have hs : c9.slots = (s.heap[q]).slots := Array.ext_getElem? fun i => e4 i fun hm => hz _ hm rfl
  have h9 : c9 = s.heap[q] := by
    rw [hs] at e2
    exact e2
  have e5 : U.heap[q]? = some c9 := e1
  rw [e5, h9, Array.getElem?_eq_getElem hq]
/-- the words of a throw but the four that speak of the heap -/
def vx_no (w : Cond) : Bool := decide (w ≠ .isRef (.static Bundle.tN "UNASSIGNED_STACK" Bundle.steD)) && decide (w ≠ .isRef (.static Bundle.tN "SUPPRESSED_SENTINEL" Bundle.listD)) && decide (w ≠ .laysStatic Bundle.tN "UNASSIGNED_STACK" Bundle.steD) && decide (w ≠ .laysStatic Bundle.tN "SUPPRESSED_SENTINEL" Bundle.listD)
def vx_at0 (own : String) (ic : Nat) (X : String) (names : List String) : List Cond := (Bundle.ownAtoms0 own ic X names).filter vx_no
def vx_atS (own : String) (ic : Nat) (X : String) (names : List String) : List Cond := (Bundle.ownAtoms own ic X names).filter vx_no
/-- a word that the tables alone decide, or a good one -/
def vx_ot (w : Cond) : Bool := w.onTables || goodWord w
theorem vx_ot_at {args a' : Array Value} {s U : State} {w : Cond} (hW : s.WarmedH U.vm) (hvm : s.vm = U.vm) (hg : vx_ot w = true) (h : w.before args s = true) : w.before a' U = true := by
  simp only [vx_ot, Bool.or_eq_true] at hg
  rcases hg with hg | hg
  · exact va_tabs hg hvm h
  · exact word_at hW (good_of_word hg) h
/-- a list's words: the good ones out of the method's own list, the others by premises of their own -/
theorem vx_hat {args : Array Value} {s : State} {L B : List Cond} (h1 : ∀ w ∈ L.filter goodWord, w.before args s = true) (h2 : ∀ w ∈ L.filter (fun w => !goodWord w), w ∈ B) (h3 : ∀ w ∈ B, w.before args s = true) : ∀ w ∈ L, w.before args s = true := by
  intro w hw
  by_cases g : goodWord w = true
  · exact h1 w (List.mem_filter.mpr ⟨hw, g⟩)
  · refine h3 w (h2 w (List.mem_filter.mpr ⟨hw, ?_⟩))
    show (!goodWord w) = true
    cases hgw : goodWord w
    · rfl
    · exact absurd hgw g
theorem vx_c {args : Array Value} {s : State} {w : Cond} {B : List Cond} (h : w.before args s = true) (t : ∀ w ∈ B, w.before args s = true) : ∀ w' ∈ w :: B, w'.before args s = true := fun w' h' => (List.mem_cons.mp h').elim (fun e => by rw [e]; exact h) (t w')
theorem vx_n {args : Array Value} {s : State} : ∀ w ∈ ([] : List Cond), w.before args s = true := fun _ h => nomatch h
theorem vx_own {args : Array Value} {s : State} {L : List Cond} (h1 : ∀ w ∈ L.filter vx_no, w.before args s = true)
    (hU : (Cond.isRef (.static Bundle.tN "UNASSIGNED_STACK" Bundle.steD)).before args s = true) (hN : (Cond.isRef (.static Bundle.tN "SUPPRESSED_SENTINEL" Bundle.listD)).before args s = true)
    (lU : (Cond.laysStatic Bundle.tN "UNASSIGNED_STACK" Bundle.steD).before args s = true) (lN : (Cond.laysStatic Bundle.tN "SUPPRESSED_SENTINEL" Bundle.listD).before args s = true) : ∀ w ∈ L, w.before args s = true := by
  intro w hw
  by_cases e1 : w = .isRef (.static Bundle.tN "UNASSIGNED_STACK" Bundle.steD)
  · rw [e1]; exact hU
  · by_cases e2 : w = .isRef (.static Bundle.tN "SUPPRESSED_SENTINEL" Bundle.listD)
    · rw [e2]; exact hN
    · by_cases e3 : w = .laysStatic Bundle.tN "UNASSIGNED_STACK" Bundle.steD
      · rw [e3]; exact lU
      · by_cases e4 : w = .laysStatic Bundle.tN "SUPPRESSED_SENTINEL" Bundle.listD
        · rw [e4]; exact lN
        · exact h1 w (List.mem_filter.mpr ⟨hw, by unfold vx_no; rw [decide_eq_true e1, decide_eq_true e2, decide_eq_true e3, decide_eq_true e4]; rfl⟩)
/-- where a static field lies, its class's statics cell in H -/
def vx_L (C n d : String) (A : Nat → Prop) (U : State) (H : Heap) : Prop := ∃ (c : ClassId) (k : Class) (i : Nat) (f : Field) (a : Nat) (cell : Cell), U.vm.findClass C = some c ∧ U.fieldFound? C n d = some (c, k, i, f) ∧ f.isStatic = true ∧ k.statics = some a ∧ H[a]? = some cell ∧ cell.vm.isStatics = true ∧ cell.cls = c ∧ f.slot < cell.slots.size ∧ k.staticTypes[f.slot]? = some f.type ∧ ¬ A a
theorem vx_L.moved {C n d : String} {A : Nat → Prop} {u U : State} {H : Heap} (hvm : u.vm.Alike U.vm) (h : vx_L C n d A u H) : vx_L C n d A U H := by
  obtain ⟨c, k, i, f, a, cell, h1, h2, h3, h4, h5, h6, h7, h8, h9, h10⟩ := h
  obtain ⟨k', hi', he⟩ := State.fieldFound?_setVm hvm h2
  exact ⟨c, k', i, f, a, cell, by rw [hvm.findClass]; exact h1, hi', h3, by rw [he]; exact h4, h5, h6, h7, h8, by rw [he]; exact h9, h10⟩
theorem vx_L.kept {C n d : String} {A : Nat → Prop} {U : State} {H H1 : Heap} (h : vx_L C n d A U H) (hq : ∀ a : Nat, a < H.size → ¬ A a → H1[a]? = H[a]?) : vx_L C n d A U H1 := by
  obtain ⟨c, k, i, f, a, cell, h1, h2, h3, h4, h5, h6, h7, h8, h9, h10⟩ := h
  exact ⟨c, k, i, f, a, cell, h1, h2, h3, h4, by rw [hq a (Array.getElem?_eq_some_iff.mp h5).1 h10]; exact h5, h6, h7, h8, h9, h10⟩
theorem vx_L.narrow {C n d : String} {A B : Nat → Prop} {U : State} {H : Heap} (h : vx_L C n d A U H) (hAB : ∀ q, B q → A q) : vx_L C n d B U H := by
  obtain ⟨c, k, i, f, a, cell, h1, h2, h3, h4, h5, h6, h7, h8, h9, h10⟩ := h
  exact ⟨c, k, i, f, a, cell, h1, h2, h3, h4, h5, h6, h7, h8, h9, fun z => h10 (hAB _ z)⟩
theorem vx_L.word {C n d : String} {A : Nat → Prop} {s : State} {args : Array Value} (h : vx_L C n d A s s.heap) : (Cond.laysStatic C n d).before args s = true := by
  obtain ⟨c, k, i, f, a, cell, h1, h2, h3, h4, h5, h6, h7, h8, h9, -⟩ := h
  show (Cond.laysStatic C n d).holds args s none s [] = true
  exact Cond.laysStatic_of h1 h2 h3 h4 h5 h6 h7 h8 h9
/-- .. and what it holds: null or some reference -/
def vx_Zq (C n d : String) (A : Nat → Prop) (U : State) (H : Heap) : Prop := va_Zq C n d A U H ∧ vx_L C n d A U H
theorem vx_Zq.moved {C n d : String} {A : Nat → Prop} {u U : State} {H : Heap} (hvm : u.vm.Alike U.vm) (h : vx_Zq C n d A u H) : vx_Zq C n d A U H := ⟨va_Zq.moved hvm h.1, vx_L.moved hvm h.2⟩
theorem vx_Zq.kept {C n d : String} {A : Nat → Prop} {U : State} {H H1 : Heap} (h : vx_Zq C n d A U H) (hq : ∀ a : Nat, a < H.size → ¬ A a → H1[a]? = H[a]?) : vx_Zq C n d A U H1 := ⟨va_Zq.kept h.1 hq, vx_L.kept h.2 hq⟩
theorem vx_Zq.narrow {C n d : String} {A B : Nat → Prop} {U : State} {H : Heap} (h : vx_Zq C n d A U H) (hAB : ∀ q, B q → A q) : vx_Zq C n d B U H := ⟨va_Zq.narrow h.1 hAB, vx_L.narrow h.2 hAB⟩
theorem vx_Zqof {args : Array Value} {s : State} {C n d : String} {A : Nat → Prop} (hl : (Cond.laysStatic C n d).before args s = true) (hini : (Cond.initialized C).before args s = true) (h : (Cond.isRef (.static C n d)).before args s = true) (hA : ∀ a : Nat, a < s.heap.size → ¬ A a) : vx_Zq C n d A s s.heap := by
  refine ⟨va_Zqof hl hini h hA, ?_⟩
  obtain ⟨c, k, i, f, a, cell, h1, h2, h3, h4, h5, h6, h7, h8, h9⟩ := Cond.laysStatic_spec hl
  exact ⟨c, k, i, f, a, cell, h1, h2, h3, h4, h5, h6, h7, h8, h9, hA a (Array.getElem?_eq_some_iff.mp h5).1⟩
theorem vx_isRef {C n d : String} {v : Value} {A : Nat → Prop} {s : State} {args : Array Value} (h : va_Z C n d v A s s.heap) (hv : v.isRef = true) : (Cond.isRef (.static C n d)).before args s = true := by
  obtain ⟨cf, kf, fi, f, a, cell, h1, h2, h3, h4, h5, h6, h7, -⟩ := h
  have he : (Term.static C n d).eval args s none [] s = some v := by
    simp [Term.eval, State.fieldNamed?, h1, h2, h4, h5, h6, h7]
  simp only [Cond.before, Cond.holds, Cond.value, he]
  cases v <;> simp_all [Value.isRef]
theorem vx_isRefq {C n d : String} {A : Nat → Prop} {s : State} {args : Array Value} (h : va_Zq C n d A s s.heap) : (Cond.isRef (.static C n d)).before args s = true := by
  rcases h with h | ⟨t, h⟩
  · exact vx_isRef h rfl
  · exact vx_isRef h rfl
/-- the same frame, seen from here: as if the method were called anew in this heap -/
theorem vx_rebase {T : State} (X : Stand p l e R s m args below meth c T locs cells slots) {R' : Room} (hf : R'.frames ≤ R.frames) (hl : R'.locals ≤ R.locals) (hc : cells + R'.cells ≤ R.cells) (hs : slots + R'.slots ≤ R.slots) :
    Stand p l e R' ((T.setVm s.vm).setFrames (.invoking m args :: below)) m args below meth c T [] 0 0 := by
  have htop : (T.setVm s.vm).topJava?.isSome := X.here.top
  have hF : ((T.setVm s.vm).setFrames (.invoking m args :: below)).frames = .invoking m args :: below := State.frames_setFrames _ (State.cur_lt_of_top htop)
  obtain ⟨g₀, hg0⟩ := Option.isSome_iff_exists.mp htop
  obtain ⟨r, hr⟩ := State.topJava?_eq_some.mp hg0
  have hl9 : e.platform.stackLimits (T.setVm s.vm).me = e.platform.stackLimits s.me := X.limits
  have hb9 : (T.setVm s.vm).me.stackBytes = s.me.stackBytes := X.bytes
  refine ⟨X.admits, X.cas, X.clock, hF, ?_, X.hears, X.method, X.code, X.here, X.tail, X.warmed, ?_, ?_, ?_⟩
  · have h := X.room
    have hU : ((T.setVm s.vm).setFrames (.invoking m args :: below)).localsInUse = s.localsInUse := by
      rw [State.localsInUse_invoking hF (meth := meth) (c := c) X.method X.code, State.localsInUse_invoking X.frames X.method X.code]
    simp only [State.hasRoom, Bool.and_eq_true, decide_eq_true_eq] at h ⊢
    obtain ⟨⟨⟨⟨h1, h2, h3, h4, h5, h6⟩, h7⟩, h8⟩, h9⟩ := h
    rw [X.frames, List.length_cons] at h2 h3
    have q1 := X.heapSize
    have q2 := X.used
    simp only [hF, hU, List.length_cons, State.stackLimits_setFrames, State.stackBytes_setFrames, hl9, hb9]
    refine ⟨⟨⟨⟨by omega, by omega, by omega, by omega, by omega, h6⟩, ?_⟩, ?_⟩, X.book⟩
    · show T.heap.size + R'.cells ≤ e.platform.maxCells
      omega
    · show T.slotsUsed + R'.slots ≤ e.platform.maxSlots
      omega
  · rw [State.stackLimits_setFrames]; rfl
  · rw [State.stackBytes_setFrames]; rfl
  · refine ⟨?_, Nat.le_refl _, Nat.le_refl _, ?_, ?_, fun a c9 h9 => ⟨c9, h9, rfl, rfl, fun _ _ => rfl⟩⟩
    · obtain ⟨t, ht, -⟩ := State.frames_cons hr
      show T.setVm s.vm = { ((T.setVm s.vm).setFrames (.invoking m args :: below)).setFrames (T.setVm s.vm).frames with heap := T.heap, slotsUsed := T.slotsUsed }
      rw [State.setFrames_setFrames, State.setFrames_self ht]
      rfl
    · show T.slotsUsed = T.slotsUsed + ((T.heap.toList.drop T.heap.size).map (·.slots.size)).sum
      rw [List.drop_eq_nil_of_le (Nat.le_of_eq Array.length_toList)]
      rfl
    · show ((T.heap.toList.drop T.heap.size).map (·.slots.size)).sum ≤ 0
      rw [List.drop_eq_nil_of_le (Nat.le_of_eq Array.length_toList)]
      exact Nat.le_refl _
/-- 'throw new E()': new; dup; invokespecial; athrow -/
theorem vx_throw0 {cc : ByteArray} {pc : Nat} (hexec : p.tables.exec = Jvm.exec) (hb : c.code = cc) (hl : l.stackTraces = false) {own cls : String} {names : List String} {ik ic mc ms : Nat} {A : Nat → Prop}
    (hown : s.vm.findClass own = some m.cls) (hcls : Bundle.fit cls = true) (hnames : ∀ n ∈ names, Bundle.fit n = true)
    (hk : (Cond.classLink own ik cls).before args s = true) (hini : (Cond.initialized cls).before args s = true) (hat : ∀ w ∈ vx_at0 own ic cls names, w.before args s = true)
    (hgood : ∀ w ∈ Cond.classLink own ik cls :: Cond.initialized cls :: vx_at0 own ic cls names, vx_ot w = true)
    (hU : vx_Zq Bundle.tN "UNASSIGNED_STACK" Bundle.steD A s s.heap) (hN : vx_Zq Bundle.tN "SUPPRESSED_SENTINEL" Bundle.listD A s s.heap) (hS : va_S A s.heap H locs) (hsize : ls.size = c.maxLocals)
    (d0 : decode cc pc = .ok (.new ik, 3)) (d3 : decode cc (pc + 3) = .ok (.dup, 1)) (d4 : decode cc (pc + 4) = .ok (.invokespecial ic, 3)) (d7 : decode cc (pc + 7) = .ok (.athrow, 1))
    (hout : ∀ x ∈ c.exceptionTable.toList, covers x (pc + 7) = false)
    (hRframes : names.length + 3 < R.frames) (hRlocals : (rest.map fun v => v.category).sum + (13 * (names.length + 1) + 42) ≤ R.locals) (hRcells : cells + 1 ≤ R.cells) (hRslots : slots + 6 ≤ R.slots) (hlocks : meth.locks = false)
    (hx : ∀ t : State, s.vm.Alike t.vm → H.size ≤ t.heap.size → (∀ q : Nat, q < H.size → t.heap[q]? = H[q]?) → XC cls s t)
    (hf : ∀ z ∈ locs, free z.base) (hc : cells + 1 ≤ mc) (hs : slots + 6 ≤ ms) :
    W p l e R s m args below meth c H locs cells slots (vx_MQ below Qc XC args s mc ms free) (F0 m pc ls rest) := by
  intro T hT X
  have htr : e.platform.stackTraces = false := (show e.platform.stackTraces = l.stackTraces by rw [X.admits.platform]).trans hl
  have Y := vx_rebase X (R' := { frames := R.frames, locals := R.locals, cells := 1, slots := 6 }) (Nat.le_refl _) (Nat.le_refl _) hRcells hRslots
  obtain ⟨s', hA⟩ : ∃ z, z = (T.setVm s.vm).setFrames (.invoking m args :: below) := ⟨_, rfl⟩
  rw [← hA] at Y
  have hvm : s'.vm = s.vm := by rw [hA]; rfl
  have hhp : s'.heap = H := by rw [hA]; exact hT
  have hW0 : s.WarmedH s'.vm := by rw [hvm]; exact State.WarmedH.refl s
  have hat' : ∀ w ∈ vx_at0 own ic cls names, w.before args s' = true := fun w hw => vx_ot_at hW0 hvm.symm (hgood w (List.mem_cons_of_mem _ (List.mem_cons_of_mem _ hw))) (hat w hw)
  have hk' : (Cond.classLink own ik cls).before args s' = true := vx_ot_at hW0 hvm.symm (hgood _ List.mem_cons_self) hk
  have hini' : (Cond.initialized cls).before args s' = true := vx_ot_at hW0 hvm.symm (hgood _ (List.mem_cons_of_mem _ List.mem_cons_self)) hini
  have hU' : vx_Zq Bundle.tN "UNASSIGNED_STACK" Bundle.steD A s' s'.heap := by rw [hhp]; exact vx_Zq.moved hW0.alike (hU.kept hS.2.1)
  have hN' : vx_Zq Bundle.tN "SUPPRESSED_SENTINEL" Bundle.listD A s' s'.heap := by rw [hhp]; exact vx_Zq.moved hW0.alike (hN.kept hS.2.1)
  have h : ∀ w ∈ Bundle.ownAtoms0 own ic cls names, w.before args s' = true := vx_own hat' (vx_isRefq hU'.1) (vx_isRefq hN'.1) hU'.2.word hN'.2.word
  have hown' : s'.vm.findClass own = some m.cls := by rw [hvm]; exact hown
  have hins : (Cond.instantiable cls 6).before args s' = true := h _ (by simp [Bundle.ownAtoms0])
  obtain ⟨vm₁, cX, kX, hfX, hkX, -, -, X₁, st1⟩ := Y.newCold hexec (own := own) (C := cls) (index := ik) (n := 6) hown' hk' hins hini'
    (g := F0 m pc ls rest) rfl (by rw [hb]; exact d0) (Nat.le_refl _) (Nat.le_refl _)
  generalize hT1 : (T.setVm vm₁).pushCell { cls := cX, slots := kX.instanceTypes.map defaultValue, vm := .none } = T1 at X₁ st1
  have hcat : (Value.ref T.heap.size).category = 1 := rfl
  have hcellA : T1.heap[T.heap.size]? = some (freshCell cX kX) := by rw [← hT1]; exact State.heap_pushCell_size _ _
  have d3' : decode c.code (pc + 3) = .ok (.dup, 1) := by rw [hb]; exact d3
  obtain ⟨U, hsteps, hrun, hend, hW, hsame, ce, hce, hO⟩ := X₁.ctorThrow0 hexec htr (own := own) (cls := cls) (names := names) (ic := ic) hown' hcls hnames h (fun x hx => nomatch hx) hfX hkX hcellA (by rw [hhp, hT]; exact Nat.le_refl _)
    (g := { method := m, pc := pc + 4, locals := ls, stack := .ref T.heap.size :: .ref T.heap.size :: rest, locked := none }) rfl hsize rfl rfl (rest := rest) rfl
    (by rw [hb]; exact d4) (by rw [hb]; exact d7) hout hRframes (by simp only [List.map_cons, List.sum_cons, hcat]; omega) hlocks
  obtain ⟨f1, f2⟩ := vx_frame hsame
  rw [hhp] at f1 f2
  have hWs : s.WarmedH U.vm := State.WarmedH.trans hW0 hW
  have hcl : s.vm.findClass cls = some ce.cls := by
    have h9 := hO.cls
    rw [hvm] at h9
    exact h9
  have hall : s.sameButNew ({ U with vm := s.vm } : State) locs mc ms := by
    subst hA
    obtain ⟨e1, e2⟩ := hsame
    rw [State.setFrames_setFrames] at e1
    have h2 : (T.setVm s.vm).sameButNew ({ U with vm := s.vm } : State) [] (0 + 1) (0 + 6) := ⟨e1, e2⟩
    have h3 := X.same.trans h2
    rw [List.append_nil] at h3
    exact h3.mono hc hs
  refine ⟨U, ?_, .threw T.heap.size, hrun, hend, Or.inr ⟨T.heap.size, rfl, cls, ce, locs, hx U hWs.alike f1 (fun q hq => f2 q hq (fun z hz => nomatch hz)), hce, hO.vm, hcl, hWs, hall, hf⟩⟩
  refine st1 _ ?_
  show Steps p.tables e below (T1.setTop { method := m, pc := pc + 3, locals := ls, stack := .ref T.heap.size :: rest, locked := none }) _
  jvm_step X₁.here [X₁.here.top, hexec, d3', Value.category]
  exact hsteps
/-- 'throw new E("text")': new; dup; ldc; invokespecial; athrow -/
theorem vx_throwS {cc : ByteArray} {pc : Nat} (hexec : p.tables.exec = Jvm.exec) (hb : c.code = cc) (hl : l.stackTraces = false) {own cls text : String} {names : List String} {ik is ic mc ms sa : Nat} {A : Nat → Prop}
    (hown : s.vm.findClass own = some m.cls) (hcls : Bundle.fit cls = true) (hnames : ∀ n ∈ names, Bundle.fit n = true)
    (hk : (Cond.classLink own ik cls).before args s = true) (hini : (Cond.initialized cls).before args s = true) (hstr : vk_R own is text sa s) (hat : ∀ w ∈ vx_atS own ic cls names, w.before args s = true)
    (hgood : ∀ w ∈ Cond.classLink own ik cls :: Cond.initialized cls :: vx_atS own ic cls names, vx_ot w = true)
    (hU : vx_Zq Bundle.tN "UNASSIGNED_STACK" Bundle.steD A s s.heap) (hN : vx_Zq Bundle.tN "SUPPRESSED_SENTINEL" Bundle.listD A s s.heap) (hS : va_S A s.heap H locs) (hsize : ls.size = c.maxLocals)
    (d0 : decode cc pc = .ok (.new ik, 3)) (d3 : decode cc (pc + 3) = .ok (.dup, 1)) (d4 : decode cc (pc + 4) = .ok (.ldc is, 2)) (d6 : decode cc (pc + 6) = .ok (.invokespecial ic, 3)) (d9 : decode cc (pc + 9) = .ok (.athrow, 1))
    (hout : ∀ x ∈ c.exceptionTable.toList, covers x (pc + 9) = false)
    (hRframes : names.length + 3 < R.frames) (hRlocals : (rest.map fun v => v.category).sum + (13 * (names.length + 1) + 43) ≤ R.locals) (hRcells : cells + 1 ≤ R.cells) (hRslots : slots + 6 ≤ R.slots) (hlocks : meth.locks = false)
    (hx : ∀ t : State, s.vm.Alike t.vm → H.size ≤ t.heap.size → (∀ q : Nat, q < H.size → t.heap[q]? = H[q]?) → XC cls s t)
    (hf : ∀ z ∈ locs, free z.base) (hc : cells + 1 ≤ mc) (hs : slots + 6 ≤ ms) :
    W p l e R s m args below meth c H locs cells slots (vx_MQ below Qc XC args s mc ms free) (F0 m pc ls rest) := by
  intro T hT X
  have htr : e.platform.stackTraces = false := (show e.platform.stackTraces = l.stackTraces by rw [X.admits.platform]).trans hl
  have Y := vx_rebase X (R' := { frames := R.frames, locals := R.locals, cells := 1, slots := 6 }) (Nat.le_refl _) (Nat.le_refl _) hRcells hRslots
  obtain ⟨s', hA⟩ : ∃ z, z = (T.setVm s.vm).setFrames (.invoking m args :: below) := ⟨_, rfl⟩
  rw [← hA] at Y
  have hvm : s'.vm = s.vm := by rw [hA]; rfl
  have hhp : s'.heap = H := by rw [hA]; exact hT
  have hW0 : s.WarmedH s'.vm := by rw [hvm]; exact State.WarmedH.refl s
  have hat' : ∀ w ∈ vx_atS own ic cls names, w.before args s' = true := fun w hw => vx_ot_at hW0 hvm.symm (hgood w (List.mem_cons_of_mem _ (List.mem_cons_of_mem _ hw))) (hat w hw)
  have hk' : (Cond.classLink own ik cls).before args s' = true := vx_ot_at hW0 hvm.symm (hgood _ List.mem_cons_self) hk
  have hini' : (Cond.initialized cls).before args s' = true := vx_ot_at hW0 hvm.symm (hgood _ (List.mem_cons_of_mem _ List.mem_cons_self)) hini
  have hU' : vx_Zq Bundle.tN "UNASSIGNED_STACK" Bundle.steD A s' s'.heap := by rw [hhp]; exact vx_Zq.moved hW0.alike (hU.kept hS.2.1)
  have hN' : vx_Zq Bundle.tN "SUPPRESSED_SENTINEL" Bundle.listD A s' s'.heap := by rw [hhp]; exact vx_Zq.moved hW0.alike (hN.kept hS.2.1)
  have h : ∀ w ∈ Bundle.ownAtoms own ic cls names, w.before args s' = true := vx_own hat' (vx_isRefq hU'.1) (vx_isRefq hN'.1) hU'.2.word hN'.2.word
  have hown' : s'.vm.findClass own = some m.cls := by rw [hvm]; exact hown
  have hins : (Cond.instantiable cls 6).before args s' = true := h _ (by simp [Bundle.ownAtoms])
  obtain ⟨vm₁, cX, kX, hfX, hkX, -, -, X₁, st1⟩ := Y.newCold hexec (own := own) (C := cls) (index := ik) (n := 6) hown' hk' hins hini'
    (g := F0 m pc ls rest) rfl (by rw [hb]; exact d0) (Nat.le_refl _) (Nat.le_refl _)
  generalize hT1 : (T.setVm vm₁).pushCell { cls := cX, slots := kX.instanceTypes.map defaultValue, vm := .none } = T1 at X₁ st1
  have hcat : (Value.ref T.heap.size).category = 1 := rfl
  have hcellA : T1.heap[T.heap.size]? = some (freshCell cX kX) := by rw [← hT1]; exact State.heap_pushCell_size _ _
  have d3' : decode c.code (pc + 3) = .ok (.dup, 1) := by rw [hb]; exact d3
  have d4' : decode c.code (pc + 4) = .ok (.ldc is, 2) := by rw [hb]; exact d4
  have hstr' : vk_R own is text sa s' := vk_R.warm hW0 hstr
  obtain ⟨U, hsteps, hrun, hend, hW, hsame, ce, hce, hO⟩ := X₁.ctorThrowS hexec htr (own := own) (cls := cls) (names := names) (ic := ic) hown' hcls hnames h (fun x hx => nomatch hx) hfX hkX hcellA (by rw [hhp, hT]; exact Nat.le_refl _) (msg := .ref sa) rfl
    (g := { method := m, pc := pc + 6, locals := ls, stack := .ref sa :: .ref T.heap.size :: .ref T.heap.size :: rest, locked := none }) rfl hsize rfl rfl (rest := rest) rfl
    (by rw [hb]; exact d6) (by rw [hb]; exact d9) hout hRframes (by simp only [List.map_cons, List.sum_cons, hcat]; omega) hlocks
  obtain ⟨f1, f2⟩ := vx_frame hsame
  rw [hhp] at f1 f2
  have hWs : s.WarmedH U.vm := State.WarmedH.trans hW0 hW
  have hcl : s.vm.findClass cls = some ce.cls := by
    have h9 := hO.cls
    rw [hvm] at h9
    exact h9
  have hall : s.sameButNew ({ U with vm := s.vm } : State) locs mc ms := by
    subst hA
    obtain ⟨e1, e2⟩ := hsame
    rw [State.setFrames_setFrames] at e1
    have h2 : (T.setVm s.vm).sameButNew ({ U with vm := s.vm } : State) [] (0 + 1) (0 + 6) := ⟨e1, e2⟩
    have h3 := X.same.trans h2
    rw [List.append_nil] at h3
    exact h3.mono hc hs
  refine ⟨U, ?_, .threw T.heap.size, hrun, hend, Or.inr ⟨T.heap.size, rfl, cls, ce, locs, hx U hWs.alike f1 (fun q hq => f2 q hq (fun z hz => nomatch hz)), hce, hO.vm, hcl, hWs, hall, hf⟩⟩
  refine st1 _ ?_
  show Steps p.tables e below (T1.setTop { method := m, pc := pc + 3, locals := ls, stack := .ref T.heap.size :: rest, locked := none }) _
  jvm_step X₁.here [X₁.here.top, hexec, d3', Value.category]
  exact X₁.ldcString hexec (own := own) (text := text) (index := is) (a := sa) hown' hstr'.1 hstr'.2
    (g := { method := m, pc := pc + 4, locals := ls, stack := .ref T.heap.size :: .ref T.heap.size :: rest, locked := none }) rfl d4' _ hsteps
/-- 'throw new E("text")', the text by a wide index -/
theorem vx_throwSW {cc : ByteArray} {pc : Nat} (hexec : p.tables.exec = Jvm.exec) (hb : c.code = cc) (hl : l.stackTraces = false) {own cls text : String} {names : List String} {ik is ic mc ms sa : Nat} {A : Nat → Prop}
    (hown : s.vm.findClass own = some m.cls) (hcls : Bundle.fit cls = true) (hnames : ∀ n ∈ names, Bundle.fit n = true)
    (hk : (Cond.classLink own ik cls).before args s = true) (hini : (Cond.initialized cls).before args s = true) (hstr : vk_R own is text sa s) (hat : ∀ w ∈ vx_atS own ic cls names, w.before args s = true)
    (hgood : ∀ w ∈ Cond.classLink own ik cls :: Cond.initialized cls :: vx_atS own ic cls names, vx_ot w = true)
    (hU : vx_Zq Bundle.tN "UNASSIGNED_STACK" Bundle.steD A s s.heap) (hN : vx_Zq Bundle.tN "SUPPRESSED_SENTINEL" Bundle.listD A s s.heap) (hS : va_S A s.heap H locs) (hsize : ls.size = c.maxLocals)
    (d0 : decode cc pc = .ok (.new ik, 3)) (d3 : decode cc (pc + 3) = .ok (.dup, 1)) (d4 : decode cc (pc + 4) = .ok (.ldc_w is, 3)) (d7 : decode cc (pc + 7) = .ok (.invokespecial ic, 3)) (d10 : decode cc (pc + 10) = .ok (.athrow, 1))
    (hout : ∀ x ∈ c.exceptionTable.toList, covers x (pc + 10) = false)
    (hRframes : names.length + 3 < R.frames) (hRlocals : (rest.map fun v => v.category).sum + (13 * (names.length + 1) + 43) ≤ R.locals) (hRcells : cells + 1 ≤ R.cells) (hRslots : slots + 6 ≤ R.slots) (hlocks : meth.locks = false)
    (hx : ∀ t : State, s.vm.Alike t.vm → H.size ≤ t.heap.size → (∀ q : Nat, q < H.size → t.heap[q]? = H[q]?) → XC cls s t)
    (hf : ∀ z ∈ locs, free z.base) (hc : cells + 1 ≤ mc) (hs : slots + 6 ≤ ms) :
    W p l e R s m args below meth c H locs cells slots (vx_MQ below Qc XC args s mc ms free) (F0 m pc ls rest) := by
  intro T hT X
  have htr : e.platform.stackTraces = false := (show e.platform.stackTraces = l.stackTraces by rw [X.admits.platform]).trans hl
  have Y := vx_rebase X (R' := { frames := R.frames, locals := R.locals, cells := 1, slots := 6 }) (Nat.le_refl _) (Nat.le_refl _) hRcells hRslots
  obtain ⟨s', hA⟩ : ∃ z, z = (T.setVm s.vm).setFrames (.invoking m args :: below) := ⟨_, rfl⟩
  rw [← hA] at Y
  have hvm : s'.vm = s.vm := by rw [hA]; rfl
  have hhp : s'.heap = H := by rw [hA]; exact hT
  have hW0 : s.WarmedH s'.vm := by rw [hvm]; exact State.WarmedH.refl s
  have hat' : ∀ w ∈ vx_atS own ic cls names, w.before args s' = true := fun w hw => vx_ot_at hW0 hvm.symm (hgood w (List.mem_cons_of_mem _ (List.mem_cons_of_mem _ hw))) (hat w hw)
  have hk' : (Cond.classLink own ik cls).before args s' = true := vx_ot_at hW0 hvm.symm (hgood _ List.mem_cons_self) hk
  have hini' : (Cond.initialized cls).before args s' = true := vx_ot_at hW0 hvm.symm (hgood _ (List.mem_cons_of_mem _ List.mem_cons_self)) hini
  have hU' : vx_Zq Bundle.tN "UNASSIGNED_STACK" Bundle.steD A s' s'.heap := by rw [hhp]; exact vx_Zq.moved hW0.alike (hU.kept hS.2.1)
  have hN' : vx_Zq Bundle.tN "SUPPRESSED_SENTINEL" Bundle.listD A s' s'.heap := by rw [hhp]; exact vx_Zq.moved hW0.alike (hN.kept hS.2.1)
  have h : ∀ w ∈ Bundle.ownAtoms own ic cls names, w.before args s' = true := vx_own hat' (vx_isRefq hU'.1) (vx_isRefq hN'.1) hU'.2.word hN'.2.word
  have hown' : s'.vm.findClass own = some m.cls := by rw [hvm]; exact hown
  have hins : (Cond.instantiable cls 6).before args s' = true := h _ (by simp [Bundle.ownAtoms])
  obtain ⟨vm₁, cX, kX, hfX, hkX, -, -, X₁, st1⟩ := Y.newCold hexec (own := own) (C := cls) (index := ik) (n := 6) hown' hk' hins hini'
    (g := F0 m pc ls rest) rfl (by rw [hb]; exact d0) (Nat.le_refl _) (Nat.le_refl _)
  generalize hT1 : (T.setVm vm₁).pushCell { cls := cX, slots := kX.instanceTypes.map defaultValue, vm := .none } = T1 at X₁ st1
  have hcat : (Value.ref T.heap.size).category = 1 := rfl
  have hcellA : T1.heap[T.heap.size]? = some (freshCell cX kX) := by rw [← hT1]; exact State.heap_pushCell_size _ _
  have d3' : decode c.code (pc + 3) = .ok (.dup, 1) := by rw [hb]; exact d3
  have d4' : decode c.code (pc + 4) = .ok (.ldc_w is, 3) := by rw [hb]; exact d4
  have hstr' : vk_R own is text sa s' := vk_R.warm hW0 hstr
  obtain ⟨U, hsteps, hrun, hend, hW, hsame, ce, hce, hO⟩ := X₁.ctorThrowS hexec htr (own := own) (cls := cls) (names := names) (ic := ic) hown' hcls hnames h (fun x hx => nomatch hx) hfX hkX hcellA (by rw [hhp, hT]; exact Nat.le_refl _) (msg := .ref sa) rfl
    (g := { method := m, pc := pc + 7, locals := ls, stack := .ref sa :: .ref T.heap.size :: .ref T.heap.size :: rest, locked := none }) rfl hsize rfl rfl (rest := rest) rfl
    (by rw [hb]; exact d7) (by rw [hb]; exact d10) hout hRframes (by simp only [List.map_cons, List.sum_cons, hcat]; omega) hlocks
  obtain ⟨f1, f2⟩ := vx_frame hsame
  rw [hhp] at f1 f2
  have hWs : s.WarmedH U.vm := State.WarmedH.trans hW0 hW
  have hcl : s.vm.findClass cls = some ce.cls := by
    have h9 := hO.cls
    rw [hvm] at h9
    exact h9
  have hall : s.sameButNew ({ U with vm := s.vm } : State) locs mc ms := by
    subst hA
    obtain ⟨e1, e2⟩ := hsame
    rw [State.setFrames_setFrames] at e1
    have h2 : (T.setVm s.vm).sameButNew ({ U with vm := s.vm } : State) [] (0 + 1) (0 + 6) := ⟨e1, e2⟩
    have h3 := X.same.trans h2
    rw [List.append_nil] at h3
    exact h3.mono hc hs
  refine ⟨U, ?_, .threw T.heap.size, hrun, hend, Or.inr ⟨T.heap.size, rfl, cls, ce, locs, hx U hWs.alike f1 (fun q hq => f2 q hq (fun z hz => nomatch hz)), hce, hO.vm, hcl, hWs, hall, hf⟩⟩
  refine st1 _ ?_
  show Steps p.tables e below (T1.setTop { method := m, pc := pc + 3, locals := ls, stack := .ref T.heap.size :: rest, locked := none }) _
  jvm_step X₁.here [X₁.here.top, hexec, d3', Value.category]
  exact X₁.ldcStringW hexec (own := own) (text := text) (index := is) (a := sa) hown' hstr'.1 hstr'.2
    (g := { method := m, pc := pc + 4, locals := ls, stack := .ref T.heap.size :: .ref T.heap.size :: rest, locked := none }) rfl d4' _ hsteps
end Ends
section Bodies
variable {l : Launch}
theorem vx_ofW {y : MethodName} {ws ws' : List Cond} {rm : Room} {Pc : Array Value → State → Prop} {Qc : Array Value → State → Outcome → State → Prop} {XC : String → State → State → Prop} {mc ms : Nat} {free : Addr → Prop} {cc : ByteArray} {maxL : Nat} {ret : Option FieldType}
    (hy : plainName y.cls = true) (hw : ws = Cond.code y cc maxL ret :: ws')
    (body : ∀ p e s m args below meth c s₁, BodyLoose p l y (headSpec ws rm) cc maxL ret e s m args below meth c s₁ → c.maxLocals = maxL → (∀ x ∈ c.exceptionTable.toList, False) → Pc args s →
      W p l e (headSpec ws rm).room s m args below meth c s.heap [] 0 0 (vx_MQ below Qc XC args s mc ms free) (entryFrame m args maxL)) : vx_Met l y ws rm Pc Qc XC mc ms free := by
  refine MetFree.of_bodyS (code := cc) (maxLocals := maxL) (ret := ret) hy ?_ ?_
  · intro args s m h hn
    obtain ⟨meth, c, h1, h2, h3, h4, h5, h6, -, -⟩ := Cond.code_spec hn (atoms_spec (ws := ws) h _ (by rw [hw]; exact List.mem_cons_self))
    exact ⟨meth, c, h1, h2, h3, h4, h5, h6⟩
  · intro p e s m args below meth c s₁ B hml hP _
    have hh0 : s₁.heap = s.heap := by rw [B.state]; rfl
    have ht : ∀ x ∈ c.exceptionTable.toList, False := by
      obtain ⟨meth9, c9, h1, h2, -, -, -, -, h7, -⟩ := Cond.code_spec B.named (atoms_spec (ws := ws) B.pre _ (by rw [hw]; exact List.mem_cons_self))
      cases Option.some.inj (h1.symm.trans B.method)
      cases Option.some.inj (h2.symm.trans (Stand.of_body B).code)
      intro x hx
      rw [Array.isEmpty_iff.mp h7] at hx
      cases hx
    obtain ⟨t, a1, o, b1, b2, b3⟩ := body p e s m args below meth c s₁ B hml ht hP s₁ hh0 (Stand.of_body B)
    exact ⟨t, o, a1, b1, b2, b3⟩
/-- the table of a body with handlers -/
theorem vx_table {p : Program} {x y : MethodName} {S : Spec} {cc bytes : ByteArray} {maxL maxL' : Nat} {ret ret' : Option FieldType} {e : Env} {s s₁ : State} {m : MethodId} {args : Array Value} {below : List Frame} {meth : Method} {c : Code} {hh : List (Nat × Nat × Nat × Nat)}
    (B : BodyLoose p l y S cc maxL ret e s m args below meth c s₁) (h : (Cond.codeWith y bytes maxL' ret' hh).before args s = true) : c.exceptionTable.toList = tableOf hh := by
  obtain ⟨m9, meth9, c9, hn9, h1, h2, -, -, h6, -⟩ := Cond.codeWith_spec h
  cases Option.some.inj (hn9.symm.trans B.named)
  cases Option.some.inj (h1.symm.trans B.method)
  cases Option.some.inj (h2.symm.trans (Stand.of_body B).code)
  rw [← h6, table_eq]
end Bodies
end VXA
/-! ===== END ===== -/
/-! ===== BEGIN a static call of a method with an exception table ===== -/
section VXS
variable {p : Program} {l : Launch} {e : Env} {R : Room} {s : State} {m : MethodId} {args : Array Value} {below : List Frame} {meth : Method} {c : Code} {T : State} {H : Heap} {locs : List Loc} {cells slots : Nat}
abbrev vx_CSW (R : Room) (s : State) (args : Array Value) (own : String) (index : Nat) (y : MethodName) (bytes : ByteArray) (maxL : Nat) (ret : Option FieldType) (hh : List (Nat × Nat × Nat × Nat)) (ws : List Cond) (rm : Room) (mc ms n : Nat) : Prop :=
  (rm.cells = mc ∧ rm.slots = ms ∧ rm.frames + 1 ≤ R.frames ∧ 8 + (maxL + 11) + rm.locals ≤ R.locals ∧ (∀ w ∈ ws, ∀ (a' : Array Value) (U : State), s.WarmedH U.vm → w.before a' U = true) ∧ Cond.codeWith y bytes maxL ret hh ∈ ws) ∧
  (Cond.codeWith y bytes maxL ret hh).before args s = true ∧ (Cond.initialized y.cls).before args s = true ∧ (y.cls ≠ "java/lang/invoke/MethodHandle" ∧ y.cls ≠ "java/lang/invoke/VarHandle") ∧
  (∀ sig, parseMethodDescriptor y.desc = some sig → n = sig.parameters.length) ∧ (Cond.methodLink own index y).before args s = true ∧ (Cond.static y).before args s = true
theorem vx_cwSW {own : String} {index maxL mc ms : Nat} {y : MethodName} {bytes : ByteArray} {ret : Option FieldType} {hh : List (Nat × Nat × Nat × Nat)} {Ts ws ws' : List Cond} {rm : Room} (n : Nat) (ht : ∀ w ∈ Ts, w.before args s = true) (hT : GoodIn Ts (va_wsS own index y ws)) (hw : ws = Cond.codeWith y bytes maxL ret hh :: ws') (hrc : rm.cells = mc) (hrs : rm.slots = ms)
    (hd : y.cls ≠ "java/lang/invoke/MethodHandle" ∧ y.cls ≠ "java/lang/invoke/VarHandle" ∧ (parseMethodDescriptor y.desc).map (fun d => d.parameters.length) = some n) (hR : rm.frames + 1 ≤ R.frames ∧ 8 + (maxL + 11) + rm.locals ≤ R.locals) :
    vx_CSW R s args own index y bytes maxL ret hh ws rm mc ms n := by
  have ok : ∀ w ∈ va_wsS own index y ws, w.before args s = true := fun w h => ht w (hT w h).1
  have hG : GoodIn Ts ws := fun w h => hT w (by unfold va_wsS; exact List.mem_append_right _ h)
  have hc : Cond.codeWith y bytes maxL ret hh ∈ ws := by rw [hw]; exact List.mem_cons_self
  refine ⟨⟨hrc, hrs, hR.1, hR.2, pay_in ht hG, hc⟩, ht _ (hG _ hc).1, ok _ (by simp [va_wsS]), ⟨hd.1, hd.2.1⟩, fun sig h => ?_, ok _ (by simp [va_wsS]), ok _ (by simp [va_wsS])⟩
  have h2 := hd.2.2
  rw [h] at h2
  exact (Option.some.inj h2).symm
theorem vx_callSW (X : Stand p l e R s m args below meth c T locs cells slots) (hexec : p.tables.exec = Jvm.exec) {own : String} {index : Nat} {y : MethodName} {bytes : ByteArray} {maxL : Nat} {ret : Option FieldType} {hh : List (Nat × Nat × Nat × Nat)}
    (hown : s.vm.findClass own = some m.cls) (hlink : (Cond.methodLink own index y).before args s = true) (hstat : (Cond.static y).before args s = true) (hinit : (Cond.initialized y.cls).before args s = true)
    (hcode : (Cond.codeWith y bytes maxL ret hh).before args s = true) (hy : y.cls ≠ "java/lang/invoke/MethodHandle" ∧ y.cls ≠ "java/lang/invoke/VarHandle")
    {W9 : Nat} {Pre : Pt → Array Value → Prop} {Post : Pt → Array Value → Option Value → Pt → Prop} (hK : Back l R p e below s args y 3 W9 Pre Post)
    {g : JFrame} (hg : g.method = m) (hsize : g.locals.size = c.maxLocals) {argsL rest : List Value} (hlen : ∀ sig, parseMethodDescriptor y.desc = some sig → argsL.length = sig.parameters.length)
    (hstack : g.stack = argsL.reverse ++ rest) (hW : 2 * g.monitorRoom + (rest.map fun v => v.category).sum ≤ W9) (hdg : decode c.code g.pc = .ok (.invokestatic index, 3))
    (hpre : ∀ vm₁, s.WarmedH vm₁ → Pre ⟨T.setVm vm₁, locs, cells, slots⟩ argsL.toArray) :
    ∃ (v : Option Value) (vm₁ : Vm) (B : Pt), s.WarmedH vm₁ ∧ Stand p l e R s m args below meth c B.U B.locs B.cells B.slots ∧ Post ⟨T.setVm vm₁, locs, cells, slots⟩ argsL.toArray v B ∧
      ∀ target, Steps p.tables e below (B.U.setTop { g with pc := g.pc + 3, stack := v.toList ++ rest }) target → Steps p.tables e below (T.setTop g) target := by
  obtain ⟨mk, methM, cM, hnamed, hmethM, -, -, -, -, -, -, hsigM⟩ := Cond.codeWith_spec hcode
  have hstatic : methM.isStatic = true := Cond.static_spec hnamed hmethM hstat
  obtain ⟨kP, hkP, -⟩ := className_of_methodNamed hnamed
  have hinitP : kP.init = .initialized := Cond.initialized_spec (findClass_of_methodNamed hnamed) hkP hinit
  obtain ⟨vm₁, X₁, hstep₁⟩ := X.invokestatic hexec hown hlink hnamed hmethM hstatic hkP hinitP hy (g := g) hg (argsL := argsL) (rest := rest) (hlen _ hsigM) hstack hdg
  obtain ⟨v, B, X', hpost, hsteps⟩ := hK m meth c ⟨T.setVm vm₁, locs, cells, slots⟩ { g with stack := rest } (.invokestatic index) mk argsL.toArray X₁ hg hsize hdg hW (X₁.named hnamed) (hpre vm₁ X₁.warmed)
  exact ⟨v, vm₁, B, X₁.warmed, X', hpost, fun target h => hstep₁ _ fun acts => by rw [doInvoke_state]; exact hsteps.trans h⟩
theorem vx_runSW {y : MethodName} {bytes cc : ByteArray} {maxL nL mc ms n index : Nat} {ret : Option FieldType} {hh : List (Nat × Nat × Nat × Nat)} {ws : List Cond} {rm : Room} {Pc : Array Value → State → Prop} {Qc : Array Value → State → Outcome → State → Prop} {free : Addr → Prop} {Ts : List Cond} {own : String} {As rest : List Value} {g : JFrame}
    (S : CallFix p m c cc nL s args Ts own) (hM : Met l y ws rm Pc Qc mc ms free) (cw : vx_CSW R s args own index y bytes maxL ret hh ws rm mc ms n) (hp : PreS s H Pc As)
    (hg : g.method = m) (hn : As.length = n) (hsize : g.locals.size = nL) (hstack : g.stack = As.reverse ++ rest) (hW : 2 * g.monitorRoom + (rest.map fun v => v.category).sum ≤ 8) (hdg : decode cc g.pc = .ok (.invokestatic index, 3)) (hf : cells + mc ≤ R.cells ∧ slots + ms ≤ R.slots) :
    va_Run p l e R s m args below meth c H locs cells slots mc ms g rest (Qc As.toArray) (free) := by
  obtain ⟨⟨hrc, hrs, hfr, hlo, hws, hcw⟩, hcode, hini, hy, hlen, hl, hstt⟩ := cw
  have hK : Back l R p e below s args y 3 8 (PreOf R mc ms Pc) (PostOf Qc mc ms free) := va_backW (hh := hh) (bytes := bytes) (maxL := maxL) (ret := ret) hM hp.1 hrc hrs hfr hlo hws hcw (fun a' U hW => word_at hW (Or.inl (by first | rfl | simp [Cond.onTables, Cond.keeps, Cond.steady])) hini)
  obtain ⟨hx, hb, hml, ho, -⟩ := S
  intro T hT X
  obtain ⟨v, vm₁, ⟨U', l2, c2, s2⟩, hW₁, X', ⟨g', mk, t, L, e1, e2, hq, h1, hL, h2, h3⟩, st⟩ := vx_callSW X hx (hh := hh) (bytes := bytes) (maxL := maxL) (ret := ret) ho hl hstt hini hcode hy hK hg (hsize.trans hml.symm) (argsL := As) (rest := rest) (fun sig h => hn.trans (hlen sig h)) hstack hW (by rw [hb]; exact hdg)
    (fun vm₁ hW₁ => ⟨hf.1, hf.2, hp.2 (T.setVm vm₁) hT hW₁⟩)
  dsimp only [Pt.U, Pt.locs, Pt.cells, Pt.slots] at X' e1 e2 h1 h2 h3 st
  subst h1; subst h2; subst h3
  exact ⟨v, (T.setVm vm₁).calling g' mk As.toArray, t, U', L, hT, X', hL, e1, e2, hq, st⟩
/-- not caught here, past rows that name other classes: it goes on to the caller -/
theorem vx_outP {p : Program} {l : Launch} {e : Env} {R : Room} {s : State} {m : MethodId} {args : Array Value} {below : List Frame} {meth : Method} {c : Code} {H : Heap} {locs : List Loc} {cells slots : Nat} {free : Addr → Prop} {ls : Array Slot} {rest : List Value} {Qc : Array Value → State → Outcome → State → Prop} {XC : String → State → State → Prop}
    {pc : Nat} {own E : String} {ce : Cell} {q : Addr} {mc ms : Nat} (hown : s.vm.findClass own = some m.cls) (hlocks : meth.locks = false)
    (hpass : ∀ z ∈ c.exceptionTable.toList, covers z pc = false ∨ (z.catchType ≠ 0 ∧ ∃ nm : String, (Cond.classLink own z.catchType nm).before args s = true ∧ va_Nc E nm s)) (hcell : H[q]? = some ce) (hv : ce.vm = .none) (hcl : s.vm.findClass E = some ce.cls)
    (hx : ∀ t : State, t.heap = H → s.vm.Alike t.vm → XC E s t) (hf : ∀ z ∈ locs, free z.base) (hc : cells ≤ mc) (hs : slots ≤ ms) :
    vx_W p l e R s m args below meth c H locs cells slots (vx_MQ below Qc XC args s mc ms free) (F0 m pc ls rest) q := by
  intro T hT X
  have hpl : e.platform.magicAccessors = ({} : Platform).magicAccessors := by rw [X.admits.platform]
  obtain ⟨vm', hW', X', st⟩ := X.outThrough hlocks q (g := F0 m pc ls rest) rfl rfl rfl (cell := ce) (by rw [hT]; exact hcell) (by rw [hv]; rfl)
    (by obtain ⟨k9, h9, -⟩ := Vm.findClass_spec hcl; exact ⟨k9, h9⟩) (fun z hz => by
      rcases hpass z hz with h | ⟨hz0, nm, hl1, hn1⟩
      · exact Or.inl h
      · obtain ⟨c6, hc6, hcl6⟩ := Cond.classLink_spec hown hl1 e.platform hpl
        obtain ⟨a8, b8, h1, h2, h3⟩ := hn1
        cases Option.some.inj (h1.symm.trans hcl)
        cases Option.some.inj (h2.symm.trans hc6)
        exact Or.inr ⟨hz0, _, hcl6, h3⟩)
  obtain ⟨g₀, hfr⟩ := X'.frames_eq
  have hcell9 : ((T.setVm vm').setFrames (.throwing q :: below)).heap[q]? = some ce := by
    show T.heap[q]? = some ce
    rw [hT]; exact hcell
  have hend : Ended ((T.setVm vm').setFrames (.throwing q :: below)) below (.threw q) := State.frames_setFrames _ (State.cur_lt_of_frames hfr)
  refine ⟨(T.setVm vm').setFrames (.throwing q :: below), ?_, .threw q, X'.here.running, hend, Or.inr ⟨q, rfl, E, ce, locs, hx _ hT (X'.ends _).1.alike, hcell9, hv, hcl, (X'.ends _).1, (X'.ends _).2.mono hc hs, hf⟩⟩
  rw [X.pushThrowing_eq]
  exact st
/-- a thing of a world lies in the heap -/
theorem vx_lt {D : va_G} {cl : List vw_C} {ws : va_W} {H1 : Heap} (h : va_P D cl ws H1) {k : Nat} {q : Nat × va_E} (hk : ws[k]? = some q) : q.1 < H1.size := (h k q hk).lt
end VXS
/-! ===== END ===== -/
/-! ===== BEGIN methods with a table of their own: called by a name, returning or throwing ===== -/
section VXH
/-! vx_backW, vx_callVX, vx_callSX, vx_callVW, vx_runVW, vx_runVX, vx_runSX, vx_ofWH follow the same proofs as their sisters above (Free/Laws.lean, Shelf42/LK1.lean); vx_outP calls Shelf42/NT130.lean (outThrough). -/
section
variable {l : Launch} {R : Room} {p : Program} {e : Env} {below : List Frame} {s : State} {sargs : Array Value} {y : MethodName} {len W9 : Nat}
theorem vx_backW {ws : List Cond} {rm : Room} {Pc : Array Value → State → Prop} {Qc : Array Value → State → Outcome → State → Prop} {XC : String → State → State → Prop} {mc ms : Nat} {free : Addr → Prop} {bytes : ByteArray} {maxL : Nat} {ret : Option FieldType} {hh : List (Nat × Nat × Nat × Nat)}
    (hM : vx_Met l y ws rm Pc Qc XC mc ms free) (hblind : FrameBlind Pc) (hrc : rm.cells = mc) (hrs : rm.slots = ms)
    (hframes : rm.frames + 1 ≤ R.frames) (hlocals : W9 + (maxL + 11) + rm.locals ≤ R.locals)
    (hws : ∀ w ∈ ws, ∀ a' U, s.WarmedH U.vm → w.before a' U = true) (hcode : Cond.codeWith y bytes maxL ret hh ∈ ws) (hinit : ∀ a' U, s.WarmedH U.vm → (Cond.initialized y.cls).before a' U = true) :
    vx_Back l R p e below s sargs y len W9 (PreOf R mc ms Pc) (PostOf Qc mc ms free) (vx_Post XC mc ms free) := by
  intro m meth c A g ig mk a X hg hsize hdg hW hn hp
  have h1 : (headSpec ws rm).pre.before a A.U = true := atoms_intro fun w hw => hws w hw _ _ X.warmed
  have h2 : (Cond.codeWith y bytes maxL ret hh).before a A.U = true := hws _ hcode _ _ X.warmed
  have h3 : (Cond.initialized y.cls).before a A.U = true := hinit _ _ X.warmed
  have h4 : A.cells + (headSpec ws rm).room.cells ≤ R.cells := by rw [show (headSpec ws rm).room.cells = mc from hrc]; exact hp.1
  have h5 : A.slots + (headSpec ws rm).room.slots ≤ R.slots := by rw [show (headSpec ws rm).room.slots = ms from hrs]; exact hp.2.1
  have hPc : Pc a (A.U.calling g mk a) := hblind _ _ _ _ hp.2.2
  obtain ⟨U, Ls, c0, s0⟩ := A
  dsimp only [Pt.U, Pt.locs, Pt.cells, Pt.slots] at h1 h2 h3 h4 h5 X hn hPc ⊢
  obtain ⟨m9, methY, cY, hn9, hmY, hcY, -, hlY, -⟩ := Cond.codeWith_spec h2
  cases Option.some.inj (hn9.symm.trans hn)
  obtain ⟨kY, hkY, -⟩ := className_of_methodNamed hn
  have hinitY : kY.init = .initialized := Cond.initialized_spec (findClass_of_methodNamed hn) hkY h3
  have h : At U g.method c below := by rw [hg]; exact X.here
  have hlocals9 : W9 + (maxL + 11) + (headSpec ws rm).room.locals ≤ R.locals := hlocals
  have happ : (headSpec ws rm).appliesLoose y e.platform (U.calling g mk a) = true :=
    Spec.appliesLoose_calling (g := g) h hdg hn hkY hinitY
      (X.room_calling (g := g) (R' := (headSpec ws rm).room) hsize hmY hcY hframes (by rw [hlY]; omega) h4 h5) h1
  obtain ⟨mid, hmid⟩ := h.above
  have hfr : (U.setTop g).frames = (.java g :: mid) ++ below := by rw [State.frames_setTop' g h.top, hmid]; rfl
  obtain ⟨o, s₂, hsteps, -, hend, hq⟩ := Steps.callFree hM p X.admits X.cas X.clock (acts := []) hfr happ hPc trivial
  have hq' : vx_Q Qc XC mc ms free a (U.calling g mk a) o s₂ := hq
  rw [State.frames_setTop' g h.top] at hend
  obtain ⟨g₀, hg0⟩ := Option.isSome_iff_exists.mp h.top
  obtain ⟨r, hr⟩ := State.topJava?_eq_some.mp hg0
  have hr' : (({ U with heap := s₂.heap, slotsUsed := s₂.slotsUsed } : State).setVm s₂.vm).frames = .java g₀ :: r := hr
  rcases hq' with ⟨hqc, L, hfe, hL⟩ | ⟨q, rfl, E, ce, L, hx, hce, hcv, hcl, hW₂, hsm, hL⟩
  · obtain ⟨⟨v, rfl⟩, hW₂, e2, q2, q3, q4, q5, q6⟩ := id hfe
    have e3 : s₂ = ({ (U.calling g mk a).setFrames s₂.frames with heap := s₂.heap, slotsUsed := s₂.slotsUsed } : State).setVm s₂.vm := by
      have : s₂ = ({ s₂ with vm := (U.calling g mk a).vm } : State).setVm s₂.vm := rfl
      rw [e2] at this
      exact this
    obtain ⟨c₂, i₂, len₂, hc₂, hd₂, hf₂⟩ := hend
    have hW' : U.WarmedH s₂.vm := hW₂
    have hcc : c₂ = c := by
      have h1 : s₂.code? g.method = U.code? g.method := by
        rw [State.code?_eq, State.code?_eq, hW'.alike.method?]
      exact Option.some.inj (hc₂.symm.trans (h1.trans h.code))
    subst hcc
    have hlen : len₂ = len := by rw [hdg] at hd₂; cases hd₂; rfl
    subst hlen
    have hs₂ : s₂ = (({ U with heap := s₂.heap, slotsUsed := s₂.slotsUsed } : State).setVm s₂.vm).setTop { g with pc := g.pc + len₂, stack := v.toList ++ g.stack } := by
      refine e3.trans ?_
      rw [hf₂, State.calling_eq h.top, State.setFrames_setFrames, State.setTop_of_frames _ hr', hr]
      rfl
    have hsame : U.sameButNew ({ U with heap := s₂.heap, slotsUsed := s₂.slotsUsed } : State) L mc ms := by
      refine ⟨?_, q2, q3, q4, q5, q6⟩
      obtain ⟨t, ht, -⟩ := State.frames_cons hr
      show ({ U with heap := s₂.heap, slotsUsed := s₂.slotsUsed } : State) = { U.setFrames U.frames with heap := s₂.heap, slotsUsed := s₂.slotsUsed }
      rw [State.setFrames_self ht]
    subst hg
    refine Or.inl ⟨v, ⟨(({ U with heap := s₂.heap, slotsUsed := s₂.slotsUsed } : State).setVm s₂.vm), Ls ++ L, c0 + mc, s0 + ms⟩,
      ⟨X.admits, X.cas, X.clock, X.frames, X.room, X.hears, X.method, X.code, (X.here.setHeapUsed s₂.heap s₂.slotsUsed).setVm hW'.alike, X.tail, State.WarmedH.trans X.warmed hW', X.limits, X.bytes, X.same.trans (hsame.setVm s.vm)⟩,
      ⟨g, mk, s₂, L, rfl, rfl, hqc, rfl, hL, rfl, rfl⟩, ?_⟩
    show Steps p.tables e below _ ((({ U with heap := s₂.heap, slotsUsed := s₂.slotsUsed } : State).setVm s₂.vm).setTop { g with pc := g.pc + len₂, stack := v.toList ++ g.stack })
    rw [← hs₂]
    exact hsteps
  · obtain ⟨e2, q2, q3, q4, q5, q6⟩ := id hsm
    have e3 : s₂ = ({ (U.calling g mk a).setFrames s₂.frames with heap := s₂.heap, slotsUsed := s₂.slotsUsed } : State).setVm s₂.vm := by
      have : s₂ = ({ s₂ with vm := (U.calling g mk a).vm } : State).setVm s₂.vm := rfl
      rw [e2] at this
      exact this
    have hf₂ : s₂.frames = .throwing q :: .java g :: U.frames.tail := hend
    have hW' : U.WarmedH s₂.vm := hW₂
    have hs₂ : s₂ = ((({ U with heap := s₂.heap, slotsUsed := s₂.slotsUsed } : State).setVm s₂.vm).setTop g).pushFrame (.throwing q) := by
      refine e3.trans ?_
      rw [hf₂, State.calling_eq h.top, State.setFrames_setFrames, State.pushFrame, State.frames_setTop _ hr', State.setTop_of_frames _ hr', State.setFrames_setFrames, hr]
      rfl
    have hsame : U.sameButNew ({ U with heap := s₂.heap, slotsUsed := s₂.slotsUsed } : State) L mc ms := by
      refine ⟨?_, q2, q3, q4, q5, q6⟩
      obtain ⟨t, ht, -⟩ := State.frames_cons hr
      show ({ U with heap := s₂.heap, slotsUsed := s₂.slotsUsed } : State) = { U.setFrames U.frames with heap := s₂.heap, slotsUsed := s₂.slotsUsed }
      rw [State.setFrames_self ht]
    subst hg
    refine Or.inr ⟨q, ⟨(({ U with heap := s₂.heap, slotsUsed := s₂.slotsUsed } : State).setVm s₂.vm), Ls ++ L, c0 + mc, s0 + ms⟩,
      ⟨X.admits, X.cas, X.clock, X.frames, X.room, X.hears, X.method, X.code, (X.here.setHeapUsed s₂.heap s₂.slotsUsed).setVm hW'.alike, X.tail, State.WarmedH.trans X.warmed hW', X.limits, X.bytes, X.same.trans (hsame.setVm s.vm)⟩,
      ⟨g, mk, s₂, L, E, ce, rfl, rfl, hx, hce, hcv, hcl, rfl, hL, rfl, rfl⟩, ?_⟩
    show Steps p.tables e below _ (((({ U with heap := s₂.heap, slotsUsed := s₂.slotsUsed } : State).setVm s₂.vm).setTop g).pushFrame (.throwing q))
    rw [← hs₂]
    exact hsteps
end
variable {p : Program} {l : Launch} {e : Env} {R : Room} {s : State} {m : MethodId} {args : Array Value} {below : List Frame} {meth : Method} {c : Code} {T : State} {H : Heap} {locs : List Loc} {cells slots : Nat}
theorem vx_callVX (X : Stand p l e R s m args below meth c T locs cells slots) (hexec : p.tables.exec = Jvm.exec) {own C : String} {index : Nat} {y : MethodName} {bytes : ByteArray} {maxL : Nat} {ret : Option FieldType} {hh : List (Nat × Nat × Nat × Nat)}
    (hown : s.vm.findClass own = some m.cls) (hlink : (Cond.methodLink own index y).before args s = true) (hinst : (Cond.instanceMethod y).before args s = true) (hsel : (Cond.selects C y y).before args s = true)
    (hcode : (Cond.codeWith y bytes maxL ret hh).before args s = true) (hy : y.cls ≠ "java/lang/invoke/MethodHandle" ∧ y.cls ≠ "java/lang/invoke/VarHandle")
    {W9 : Nat} {Pre : Pt → Array Value → Prop} {Post : Pt → Array Value → Option Value → Pt → Prop} {PostX : Pt → Array Value → Addr → Pt → Prop} (hK : vx_Back l R p e below s args y 3 W9 Pre Post PostX)
    {b : Addr} {cellB : Cell} (hcell : T.heap[b]? = some cellB) (hobj : cellB.vm.isStatics = false) (hcls : s.vm.findClass C = some cellB.cls)
    {g : JFrame} (hg : g.method = m) (hsize : g.locals.size = c.maxLocals) {argsL rest : List Value} (hlen : ∀ sig, parseMethodDescriptor y.desc = some sig → argsL.length = sig.parameters.length)
    (hstack : g.stack = argsL.reverse ++ .ref b :: rest) (hW : 2 * g.monitorRoom + (rest.map fun v => v.category).sum ≤ W9) (hdg : decode c.code g.pc = .ok (.invokevirtual index, 3))
    (hpre : ∀ vm₁, s.WarmedH vm₁ → Pre ⟨T.setVm vm₁, locs, cells, slots⟩ (Value.ref b :: argsL).toArray) :
    (∃ (v : Option Value) (vm₁ : Vm) (B : Pt), s.WarmedH vm₁ ∧ Stand p l e R s m args below meth c B.U B.locs B.cells B.slots ∧ Post ⟨T.setVm vm₁, locs, cells, slots⟩ (Value.ref b :: argsL).toArray v B ∧
      ∀ target, Steps p.tables e below (B.U.setTop { g with pc := g.pc + 3, stack := v.toList ++ rest }) target → Steps p.tables e below (T.setTop g) target) ∨
    (∃ (q : Addr) (vm₁ : Vm) (B : Pt), s.WarmedH vm₁ ∧ Stand p l e R s m args below meth c B.U B.locs B.cells B.slots ∧ PostX ⟨T.setVm vm₁, locs, cells, slots⟩ (Value.ref b :: argsL).toArray q B ∧
      Steps p.tables e below (T.setTop g) ((B.U.setTop { g with stack := rest }).pushFrame (.throwing q))) := by
  obtain ⟨mk, methM, hnamed, hmethM, hstM, habM⟩ := Cond.instanceMethod_spec hinst
  obtain ⟨m8, methM', cM, hn8, hmethM', -, -, -, -, -, -, hsigM⟩ := Cond.codeWith_spec hcode
  cases Option.some.inj (hn8.symm.trans hnamed)
  cases hmethM.symm.trans hmethM'
  obtain ⟨c2, r2, m2, q1, q2, q3, q4, kP, hkP, hkPi⟩ := Cond.selects_spec hsel
  cases hcls.symm.trans q1
  cases (State.methodFound?_of_named hnamed hy).symm.trans q2
  cases hnamed.symm.trans q3
  have hselP : selectMethod e.platform s.vm cellB.cls mk = .method mk := by rw [Launch.admits_selectMethod X.admits]; exact q4
  obtain ⟨vm₁, X₁, hstep₁⟩ := X.invokevirtual hexec hown hlink hnamed hmethM hstM hkP hkPi hy (a := b) (cell := cellB) hcell
    (fun z h => by rw [h] at hobj; cases hobj) hselP hmethM habM hkP hkPi (g := g) hg (argsL := argsL) (rest := rest) (hlen _ hsigM) hstack hdg
  rcases hK m meth c ⟨T.setVm vm₁, locs, cells, slots⟩ { g with stack := rest } (.invokevirtual index) mk (Value.ref b :: argsL).toArray X₁ hg hsize hdg hW (X₁.named hnamed) (hpre vm₁ X₁.warmed) with ⟨v, B, X', hpost, hsteps⟩ | ⟨q, B, X', hpost, hsteps⟩
  · exact Or.inl ⟨v, vm₁, B, X₁.warmed, X', hpost, fun target h => hstep₁ _ fun acts => by rw [doInvoke_state]; exact hsteps.trans h⟩
  · exact Or.inr ⟨q, vm₁, B, X₁.warmed, X', hpost, hstep₁ _ fun acts => by rw [doInvoke_state]; exact hsteps⟩
theorem vx_callSX (X : Stand p l e R s m args below meth c T locs cells slots) (hexec : p.tables.exec = Jvm.exec) {own : String} {index : Nat} {y : MethodName} {bytes : ByteArray} {maxL : Nat} {ret : Option FieldType} {hh : List (Nat × Nat × Nat × Nat)}
    (hown : s.vm.findClass own = some m.cls) (hlink : (Cond.methodLink own index y).before args s = true) (hstat : (Cond.static y).before args s = true) (hinit : (Cond.initialized y.cls).before args s = true)
    (hcode : (Cond.codeWith y bytes maxL ret hh).before args s = true) (hy : y.cls ≠ "java/lang/invoke/MethodHandle" ∧ y.cls ≠ "java/lang/invoke/VarHandle")
    {W9 : Nat} {Pre : Pt → Array Value → Prop} {Post : Pt → Array Value → Option Value → Pt → Prop} {PostX : Pt → Array Value → Addr → Pt → Prop} (hK : vx_Back l R p e below s args y 3 W9 Pre Post PostX)
    {g : JFrame} (hg : g.method = m) (hsize : g.locals.size = c.maxLocals) {argsL rest : List Value} (hlen : ∀ sig, parseMethodDescriptor y.desc = some sig → argsL.length = sig.parameters.length)
    (hstack : g.stack = argsL.reverse ++ rest) (hW : 2 * g.monitorRoom + (rest.map fun v => v.category).sum ≤ W9) (hdg : decode c.code g.pc = .ok (.invokestatic index, 3))
    (hpre : ∀ vm₁, s.WarmedH vm₁ → Pre ⟨T.setVm vm₁, locs, cells, slots⟩ argsL.toArray) :
    (∃ (v : Option Value) (vm₁ : Vm) (B : Pt), s.WarmedH vm₁ ∧ Stand p l e R s m args below meth c B.U B.locs B.cells B.slots ∧ Post ⟨T.setVm vm₁, locs, cells, slots⟩ argsL.toArray v B ∧
      ∀ target, Steps p.tables e below (B.U.setTop { g with pc := g.pc + 3, stack := v.toList ++ rest }) target → Steps p.tables e below (T.setTop g) target) ∨
    (∃ (q : Addr) (vm₁ : Vm) (B : Pt), s.WarmedH vm₁ ∧ Stand p l e R s m args below meth c B.U B.locs B.cells B.slots ∧ PostX ⟨T.setVm vm₁, locs, cells, slots⟩ argsL.toArray q B ∧
      Steps p.tables e below (T.setTop g) ((B.U.setTop { g with stack := rest }).pushFrame (.throwing q))) := by
  obtain ⟨mk, methM, cM, hnamed, hmethM, -, -, -, -, -, -, hsigM⟩ := Cond.codeWith_spec hcode
  have hstatic : methM.isStatic = true := Cond.static_spec hnamed hmethM hstat
  obtain ⟨kP, hkP, -⟩ := className_of_methodNamed hnamed
  have hinitP : kP.init = .initialized := Cond.initialized_spec (findClass_of_methodNamed hnamed) hkP hinit
  obtain ⟨vm₁, X₁, hstep₁⟩ := X.invokestatic hexec hown hlink hnamed hmethM hstatic hkP hinitP hy (g := g) hg (argsL := argsL) (rest := rest) (hlen _ hsigM) hstack hdg
  rcases hK m meth c ⟨T.setVm vm₁, locs, cells, slots⟩ { g with stack := rest } (.invokestatic index) mk argsL.toArray X₁ hg hsize hdg hW (X₁.named hnamed) (hpre vm₁ X₁.warmed) with ⟨v, B, X', hpost, hsteps⟩ | ⟨q, B, X', hpost, hsteps⟩
  · exact Or.inl ⟨v, vm₁, B, X₁.warmed, X', hpost, fun target h => hstep₁ _ fun acts => by rw [doInvoke_state]; exact hsteps.trans h⟩
  · exact Or.inr ⟨q, vm₁, B, X₁.warmed, X', hpost, hstep₁ _ fun acts => by rw [doInvoke_state]; exact hsteps⟩
theorem vx_callVW (X : Stand p l e R s m args below meth c T locs cells slots) (hexec : p.tables.exec = Jvm.exec) {own C : String} {index : Nat} {y : MethodName} {bytes : ByteArray} {maxL : Nat} {ret : Option FieldType} {hh : List (Nat × Nat × Nat × Nat)}
    (hown : s.vm.findClass own = some m.cls) (hlink : (Cond.methodLink own index y).before args s = true) (hinst : (Cond.instanceMethod y).before args s = true) (hsel : (Cond.selects C y y).before args s = true)
    (hcode : (Cond.codeWith y bytes maxL ret hh).before args s = true) (hy : y.cls ≠ "java/lang/invoke/MethodHandle" ∧ y.cls ≠ "java/lang/invoke/VarHandle")
    {W9 : Nat} {Pre : Pt → Array Value → Prop} {Post : Pt → Array Value → Option Value → Pt → Prop} (hK : Back l R p e below s args y 3 W9 Pre Post)
    {b : Addr} {cellB : Cell} (hcell : T.heap[b]? = some cellB) (hobj : cellB.vm.isStatics = false) (hcls : s.vm.findClass C = some cellB.cls)
    {g : JFrame} (hg : g.method = m) (hsize : g.locals.size = c.maxLocals) {argsL rest : List Value} (hlen : ∀ sig, parseMethodDescriptor y.desc = some sig → argsL.length = sig.parameters.length)
    (hstack : g.stack = argsL.reverse ++ .ref b :: rest) (hW : 2 * g.monitorRoom + (rest.map fun v => v.category).sum ≤ W9) (hdg : decode c.code g.pc = .ok (.invokevirtual index, 3))
    (hpre : ∀ vm₁, s.WarmedH vm₁ → Pre ⟨T.setVm vm₁, locs, cells, slots⟩ (Value.ref b :: argsL).toArray) :
    ∃ (v : Option Value) (vm₁ : Vm) (B : Pt), s.WarmedH vm₁ ∧ Stand p l e R s m args below meth c B.U B.locs B.cells B.slots ∧ Post ⟨T.setVm vm₁, locs, cells, slots⟩ (Value.ref b :: argsL).toArray v B ∧
      ∀ target, Steps p.tables e below (B.U.setTop { g with pc := g.pc + 3, stack := v.toList ++ rest }) target → Steps p.tables e below (T.setTop g) target := by
  obtain ⟨mk, methM, hnamed, hmethM, hstM, habM⟩ := Cond.instanceMethod_spec hinst
  obtain ⟨m8, methM', cM, hn8, hmethM', -, -, -, -, -, -, hsigM⟩ := Cond.codeWith_spec hcode
  cases Option.some.inj (hn8.symm.trans hnamed)
  cases hmethM.symm.trans hmethM'
  obtain ⟨c2, r2, m2, q1, q2, q3, q4, kP, hkP, hkPi⟩ := Cond.selects_spec hsel
  cases hcls.symm.trans q1
  cases (State.methodFound?_of_named hnamed hy).symm.trans q2
  cases hnamed.symm.trans q3
  have hselP : selectMethod e.platform s.vm cellB.cls mk = .method mk := by rw [Launch.admits_selectMethod X.admits]; exact q4
  obtain ⟨vm₁, X₁, hstep₁⟩ := X.invokevirtual hexec hown hlink hnamed hmethM hstM hkP hkPi hy (a := b) (cell := cellB) hcell
    (fun z h => by rw [h] at hobj; cases hobj) hselP hmethM habM hkP hkPi (g := g) hg (argsL := argsL) (rest := rest) (hlen _ hsigM) hstack hdg
  obtain ⟨v, B, X', hpost, hsteps⟩ := hK m meth c ⟨T.setVm vm₁, locs, cells, slots⟩ { g with stack := rest } (.invokevirtual index) mk (Value.ref b :: argsL).toArray X₁ hg hsize hdg hW (X₁.named hnamed) (hpre vm₁ X₁.warmed)
  exact ⟨v, vm₁, B, X₁.warmed, X', hpost, fun target h => hstep₁ _ fun acts => by rw [doInvoke_state]; exact hsteps.trans h⟩
abbrev vx_CVW (R : Room) (s : State) (args : Array Value) (own C : String) (index : Nat) (y : MethodName) (bytes : ByteArray) (maxL : Nat) (ret : Option FieldType) (hh : List (Nat × Nat × Nat × Nat)) (ws : List Cond) (rm : Room) (mc ms n : Nat) : Prop :=
  (rm.cells = mc ∧ rm.slots = ms ∧ rm.frames + 1 ≤ R.frames ∧ 8 + (maxL + 11) + rm.locals ≤ R.locals ∧ (∀ w ∈ ws, ∀ (a' : Array Value) (U : State), s.WarmedH U.vm → w.before a' U = true) ∧ Cond.codeWith y bytes maxL ret hh ∈ ws) ∧
  (Cond.codeWith y bytes maxL ret hh).before args s = true ∧ (Cond.initialized y.cls).before args s = true ∧ (y.cls ≠ "java/lang/invoke/MethodHandle" ∧ y.cls ≠ "java/lang/invoke/VarHandle") ∧
  (∀ sig, parseMethodDescriptor y.desc = some sig → n = sig.parameters.length) ∧ (Cond.methodLink own index y).before args s = true ∧ (Cond.instanceMethod y).before args s = true ∧ (Cond.selects C y y).before args s = true
theorem vx_cwVW {own C : String} {index maxL mc ms : Nat} {y : MethodName} {bytes : ByteArray} {ret : Option FieldType} {hh : List (Nat × Nat × Nat × Nat)} {Ts ws ws' : List Cond} {rm : Room} (n : Nat) (ht : ∀ w ∈ Ts, w.before args s = true) (hT : GoodIn Ts (wsV own index C y ws)) (hw : ws = Cond.codeWith y bytes maxL ret hh :: ws') (hrc : rm.cells = mc) (hrs : rm.slots = ms)
    (hd : y.cls = C ∧ y.cls ≠ "java/lang/invoke/MethodHandle" ∧ y.cls ≠ "java/lang/invoke/VarHandle" ∧ (parseMethodDescriptor y.desc).map (fun d => d.parameters.length) = some n) (hR : rm.frames + 1 ≤ R.frames ∧ 8 + (maxL + 11) + rm.locals ≤ R.locals) :
    vx_CVW R s args own C index y bytes maxL ret hh ws rm mc ms n := by
  obtain ⟨hC, hd⟩ := hd
  subst hC
  have ok : ∀ w ∈ wsV own index y.cls y ws, w.before args s = true := fun w h => ht w (hT w h).1
  have hG : GoodIn Ts ws := fun w h => hT w (by unfold wsV; exact List.mem_append_right _ h)
  have hc : Cond.codeWith y bytes maxL ret hh ∈ ws := by rw [hw]; exact List.mem_cons_self
  refine ⟨⟨hrc, hrs, hR.1, hR.2, pay_in ht hG, hc⟩, ht _ (hG _ hc).1, ok _ (by simp [wsV]), ⟨hd.1, hd.2.1⟩, fun sig h => ?_, ok _ (by simp [wsV]), ok _ (by simp [wsV]), ok _ (by simp [wsV])⟩
  have h2 := hd.2.2
  rw [h] at h2
  exact (Option.some.inj h2).symm
theorem vx_runVW {y : MethodName} {bytes cc : ByteArray} {maxL nL mc ms n index : Nat} {ret : Option FieldType} {hh : List (Nat × Nat × Nat × Nat)} {ws : List Cond} {rm : Room} {Pc : Array Value → State → Prop} {Qc : Array Value → State → Outcome → State → Prop} {free : Addr → Prop} {Ts : List Cond} {own C : String} {b : Addr} {As rest : List Value} {g : JFrame}
    (S : CallFix p m c cc nL s args Ts own) (hM : Met l y ws rm Pc Qc mc ms free) (cw : vx_CVW R s args own C index y bytes maxL ret hh ws rm mc ms n) (hp : PreV s H C b Pc As)
    (hg : g.method = m) (hn : As.length = n) (hsize : g.locals.size = nL) (hstack : g.stack = As.reverse ++ .ref b :: rest) (hW : 2 * g.monitorRoom + (rest.map fun v => v.category).sum ≤ 8) (hdg : decode cc g.pc = .ok (.invokevirtual index, 3)) (hf : cells + mc ≤ R.cells ∧ slots + ms ≤ R.slots) :
    va_Run p l e R s m args below meth c H locs cells slots mc ms g rest (Qc (Value.ref b :: As).toArray) free := by
  obtain ⟨⟨hrc, hrs, hfr, hlo, hws, hcw⟩, hcode, hini, hy, hlen, hl, hin, hse⟩ := cw
  have hK : Back l R p e below s args y 3 8 (PreOf R mc ms Pc) (PostOf Qc mc ms free) := va_backW (hh := hh) (bytes := bytes) (maxL := maxL) (ret := ret) hM hp.1 hrc hrs hfr hlo hws hcw (fun a' U hW => word_at hW (Or.inl (by first | rfl | simp [Cond.onTables, Cond.keeps, Cond.steady])) hini)
  obtain ⟨hx, hb, hml, ho, -⟩ := S
  obtain ⟨-, ⟨cellB, hcB, hoB, hclB⟩, hPc⟩ := hp
  intro T hT X
  obtain ⟨v, vm₁, ⟨U', l2, c2, s2⟩, hW₁, X', ⟨g', mk, t, L, e1, e2, hq, h1, hL, h2, h3⟩, st⟩ := vx_callVW X hx (C := C) (hh := hh) (bytes := bytes) (maxL := maxL) (ret := ret) ho hl hin hse hcode hy hK (by rw [hT]; exact hcB) hoB hclB hg (hsize.trans hml.symm) (argsL := As) (rest := rest) (fun sig h => hn.trans (hlen sig h)) hstack hW (by rw [hb]; exact hdg)
    (fun vm₁ hW₁ => ⟨hf.1, hf.2, hPc (T.setVm vm₁) hT hW₁⟩)
  dsimp only [Pt.U, Pt.locs, Pt.cells, Pt.slots] at X' e1 e2 h1 h2 h3 st
  subst h1; subst h2; subst h3
  exact ⟨v, (T.setVm vm₁).calling g' mk (Value.ref b :: As).toArray, t, U', L, hT, X', hL, e1, e2, hq, st⟩
section
variable {y : MethodName} {bytes cc : ByteArray} {maxL nL mc ms n index : Nat} {ret : Option FieldType} {ws : List Cond} {rm : Room} {Pc : Array Value → State → Prop} {Qc : Array Value → State → Outcome → State → Prop} {XC : String → State → State → Prop} {free : Addr → Prop} {Ts : List Cond} {own C : String} {b : Addr} {As rest : List Value} {g : JFrame}
theorem vx_runVX {hh : List (Nat × Nat × Nat × Nat)} (S : CallFix p m c cc nL s args Ts own) (hM : vx_Met l y ws rm Pc Qc XC mc ms free) (cw : vx_CVW R s args own C index y bytes maxL ret hh ws rm mc ms n) (hp : PreV s H C b Pc As)
    (hg : g.method = m) (hn : As.length = n) (hsize : g.locals.size = nL) (hstack : g.stack = As.reverse ++ .ref b :: rest) (hW : 2 * g.monitorRoom + (rest.map fun v => v.category).sum ≤ 8) (hdg : decode cc g.pc = .ok (.invokevirtual index, 3)) (hf : cells + mc ≤ R.cells ∧ slots + ms ≤ R.slots) :
    vx_Run p l e R s m args below meth c H locs cells slots mc ms g rest (Qc (Value.ref b :: As).toArray) XC free := by
  obtain ⟨⟨hrc, hrs, hfr, hlo, hws, hcw⟩, hcode, hini, hy, hlen, hl, hin, hse⟩ := cw
  have hK : vx_Back l R p e below s args y 3 8 (PreOf R mc ms Pc) (PostOf Qc mc ms free) (vx_Post XC mc ms free) := vx_backW (hh := hh) (bytes := bytes) (maxL := maxL) (ret := ret) hM hp.1 hrc hrs hfr hlo hws hcw (fun a' U hW => word_at hW (Or.inl (by first | rfl | simp [Cond.onTables, Cond.keeps, Cond.steady])) hini)
  obtain ⟨hx, hb, hml, ho, -⟩ := S
  obtain ⟨-, ⟨cellB, hcB, hoB, hclB⟩, hPc⟩ := hp
  intro T hT X
  rcases vx_callVX X hx (C := C) (hh := hh) (bytes := bytes) (maxL := maxL) (ret := ret) ho hl hin hse hcode hy hK (by rw [hT]; exact hcB) hoB hclB hg (hsize.trans hml.symm) (argsL := As) (rest := rest) (fun sig h => hn.trans (hlen sig h)) hstack hW (by rw [hb]; exact hdg)
    (fun vm₁ hW₁ => ⟨hf.1, hf.2, hPc (T.setVm vm₁) hT hW₁⟩) with ⟨v, vm₁, ⟨U', l2, c2, s2⟩, hW₁, X', ⟨g', mk, t, L, e1, e2, hq, h1, hL, h2, h3⟩, st⟩ | ⟨q, vm₁, ⟨U', l2, c2, s2⟩, hW₁, X', ⟨g', mk, t, L, E, ce, e1, e2, hq, hce, hcv, hcl, h1, hL, h2, h3⟩, st⟩
  · dsimp only [Pt.U, Pt.locs, Pt.cells, Pt.slots] at X' e1 e2 h1 h2 h3 st
    subst h1; subst h2; subst h3
    exact Or.inl ⟨v, (T.setVm vm₁).calling g' mk (Value.ref b :: As).toArray, t, U', L, hT, X', hL, e1, e2, hq, st⟩
  · dsimp only [Pt.U, Pt.locs, Pt.cells, Pt.slots] at X' e1 e2 h1 h2 h3 st hcl
    subst h1; subst h2; subst h3
    exact Or.inr ⟨q, (T.setVm vm₁).calling g' mk (Value.ref b :: As).toArray, t, U', L, E, ce, hT, X', hL, e1, e2, hq, hce, hcv, vx_cls hW₁ hcl, st⟩
theorem vx_runSX {hh : List (Nat × Nat × Nat × Nat)} (S : CallFix p m c cc nL s args Ts own) (hM : vx_Met l y ws rm Pc Qc XC mc ms free) (cw : vx_CSW R s args own index y bytes maxL ret hh ws rm mc ms n) (hp : PreS s H Pc As)
    (hg : g.method = m) (hn : As.length = n) (hsize : g.locals.size = nL) (hstack : g.stack = As.reverse ++ rest) (hW : 2 * g.monitorRoom + (rest.map fun v => v.category).sum ≤ 8) (hdg : decode cc g.pc = .ok (.invokestatic index, 3)) (hf : cells + mc ≤ R.cells ∧ slots + ms ≤ R.slots) :
    vx_Run p l e R s m args below meth c H locs cells slots mc ms g rest (Qc As.toArray) XC free := by
  obtain ⟨⟨hrc, hrs, hfr, hlo, hws, hcw⟩, hcode, hini, hy, hlen, hl, hstt⟩ := cw
  have hK : vx_Back l R p e below s args y 3 8 (PreOf R mc ms Pc) (PostOf Qc mc ms free) (vx_Post XC mc ms free) := vx_backW (hh := hh) (bytes := bytes) (maxL := maxL) (ret := ret) hM hp.1 hrc hrs hfr hlo hws hcw (fun a' U hW => word_at hW (Or.inl (by first | rfl | simp [Cond.onTables, Cond.keeps, Cond.steady])) hini)
  obtain ⟨hx, hb, hml, ho, -⟩ := S
  intro T hT X
  rcases vx_callSX X hx (hh := hh) (bytes := bytes) (maxL := maxL) (ret := ret) ho hl hstt hini hcode hy hK hg (hsize.trans hml.symm) (argsL := As) (rest := rest) (fun sig h => hn.trans (hlen sig h)) hstack hW (by rw [hb]; exact hdg)
    (fun vm₁ hW₁ => ⟨hf.1, hf.2, hp.2 (T.setVm vm₁) hT hW₁⟩) with ⟨v, vm₁, ⟨U', l2, c2, s2⟩, hW₁, X', ⟨g', mk, t, L, e1, e2, hq, h1, hL, h2, h3⟩, st⟩ | ⟨q, vm₁, ⟨U', l2, c2, s2⟩, hW₁, X', ⟨g', mk, t, L, E, ce, e1, e2, hq, hce, hcv, hcl, h1, hL, h2, h3⟩, st⟩
  · dsimp only [Pt.U, Pt.locs, Pt.cells, Pt.slots] at X' e1 e2 h1 h2 h3 st
    subst h1; subst h2; subst h3
    exact Or.inl ⟨v, (T.setVm vm₁).calling g' mk As.toArray, t, U', L, hT, X', hL, e1, e2, hq, st⟩
  · dsimp only [Pt.U, Pt.locs, Pt.cells, Pt.slots] at X' e1 e2 h1 h2 h3 st hcl
    subst h1; subst h2; subst h3
    exact Or.inr ⟨q, (T.setVm vm₁).calling g' mk As.toArray, t, U', L, E, ce, hT, X', hL, e1, e2, hq, hce, hcv, vx_cls hW₁ hcl, st⟩
end
end VXH
theorem vx_ofWH {l : Launch} {y : MethodName} {ws ws' : List Cond} {rm : Room} {Pc : Array Value → State → Prop} {Qc : Array Value → State → Outcome → State → Prop} {XC : String → State → State → Prop} {mc ms : Nat} {free : Addr → Prop} {cc : ByteArray} {maxL : Nat} {ret : Option FieldType} {hh : List (Nat × Nat × Nat × Nat)}
    (hy : plainName y.cls = true) (hw : ws = Cond.codeWith y cc maxL ret hh :: ws')
    (body : ∀ p e s m args below meth c s₁, BodyLoose p l y (headSpec ws rm) cc maxL ret e s m args below meth c s₁ → c.maxLocals = maxL → Pc args s →
      W p l e (headSpec ws rm).room s m args below meth c s.heap [] 0 0 (vx_MQ below Qc XC args s mc ms free) (entryFrame m args maxL)) : vx_Met l y ws rm Pc Qc XC mc ms free := by
  refine MetFree.of_bodyS (code := cc) (maxLocals := maxL) (ret := ret) hy ?_ ?_
  · intro args s m h hn
    obtain ⟨m9, meth, c, hn9, h1, h2, h3, h4, -, h5, h6, -⟩ := Cond.codeWith_spec (atoms_spec (ws := ws) h _ (by rw [hw]; exact List.mem_cons_self))
    cases hn.symm.trans hn9
    exact ⟨meth, c, h1, h2, h3, h4, h5, h6⟩
  · intro p e s m args below meth c s₁ B hml hP _
    have hh0 : s₁.heap = s.heap := by rw [B.state]; rfl
    obtain ⟨t, a1, o, b1, b2, b3⟩ := body p e s m args below meth c s₁ B hml hP s₁ hh0 (Stand.of_body B)
    exact ⟨t, o, a1, b1, b2, b3⟩
/-! ===== END ===== -/
end
section
/-! ===== BEGIN printed: names, fields, word lists, decode rows ===== -/
def RX0 : String := "TaxEngine$Amounts"
def TX0 : u_T := fun k => match k with
  | 0 => ("TaxEngine$Amounts", "lefts", "[I", true)
  | 1 => ("TaxEngine$Amounts", "lasts", "[I", true)
  | 2 => ("TaxEngine$Amounts", "count", "I", false)
  | _ => ("TaxEngine$Amounts", "now", "I", false)
def tyX0 : Nat → FieldType := fun k => match k with
  | 0 => .array .int
  | 1 => .array .int
  | 2 => .int
  | _ => .int
abbrev wsX00 : List Cond := u_ws RX0 TX0 4
theorem nmX0 : ∀ a, a < 4 → ∀ b, b < 4 → a ≠ b → (TX0 a).2.1 ≠ (TX0 b).2.1 := by decide +kernel
theorem tyX0_ok : ∀ k, k < 4 → parseFieldDescriptor (TX0 k).2.2.1 = some (tyX0 k) := by decide +kernel
abbrev cX0_init : ByteArray := prog_2_method_1_code
def yX0_init : MethodName := ⟨RX0, "<init>", "()V"⟩
abbrev cX0_now : ByteArray := prog_2_method_2_code
def yX0_now : MethodName := ⟨RX0, "now", "()I"⟩
abbrev cX0_size : ByteArray := prog_2_method_3_code
def yX0_size : MethodName := ⟨RX0, "size", "()I"⟩
abbrev cX0_leftAt : ByteArray := prog_2_method_4_code
def yX0_leftAt : MethodName := ⟨RX0, "leftAt", "(I)I"⟩
abbrev cX0_total : ByteArray := prog_2_method_5_code
def yX0_total : MethodName := ⟨RX0, "total", "()I"⟩
abbrev cX0_add : ByteArray := prog_2_method_6_code
def yX0_add : MethodName := ⟨RX0, "add", "(II)V"⟩
abbrev cX0_take : ByteArray := prog_2_method_7_code
def yX0_take : MethodName := ⟨RX0, "take", "(I)I"⟩
abbrev cX0_endYear : ByteArray := prog_2_method_8_code
def yX0_endYear : MethodName := ⟨RX0, "endYear", "()V"⟩
abbrev cX0_move : ByteArray := prog_2_method_9_code
def yX0_move : MethodName := ⟨RX0, "move", "(II)V"⟩
def RX1 : String := "TaxEngine$Brackets"
def TX1 : u_T := fun k => match k with
  | 0 => ("TaxEngine$Brackets", "thresholds", "[I", true)
  | 1 => ("TaxEngine$Brackets", "rates", "[I", true)
  | _ => ("TaxEngine$Brackets", "count", "I", false)
def tyX1 : Nat → FieldType := fun k => match k with
  | 0 => .array .int
  | 1 => .array .int
  | _ => .int
abbrev wsX10 : List Cond := u_ws RX1 TX1 3
theorem nmX1 : ∀ a, a < 3 → ∀ b, b < 3 → a ≠ b → (TX1 a).2.1 ≠ (TX1 b).2.1 := by decide +kernel
theorem tyX1_ok : ∀ k, k < 3 → parseFieldDescriptor (TX1 k).2.2.1 = some (tyX1 k) := by decide +kernel
abbrev cX1_init : ByteArray := prog_3_method_1_code
def yX1_init : MethodName := ⟨RX1, "<init>", "()V"⟩
abbrev cX1_size : ByteArray := prog_3_method_2_code
def yX1_size : MethodName := ⟨RX1, "size", "()I"⟩
abbrev cX1_clear : ByteArray := prog_3_method_3_code
def yX1_clear : MethodName := ⟨RX1, "clear", "()V"⟩
abbrev cX1_hasRoomFor : ByteArray := prog_3_method_4_code
def yX1_hasRoomFor : MethodName := ⟨RX1, "hasRoomFor", "(I)Z"⟩
abbrev cX1_set : ByteArray := prog_3_method_5_code
def yX1_set : MethodName := ⟨RX1, "set", "(II)V"⟩
abbrev cX1_tax : ByteArray := prog_3_method_6_code
def yX1_tax : MethodName := ⟨RX1, "tax", "(I)I"⟩
abbrev cX1_placeFor : ByteArray := prog_3_method_7_code
def yX1_placeFor : MethodName := ⟨RX1, "placeFor", "(I)I"⟩
abbrev cX1_isAt : ByteArray := prog_3_method_8_code
def yX1_isAt : MethodName := ⟨RX1, "isAt", "(II)Z"⟩
def RX2 : String := "TaxEngine$Credits"
def TX2 : u_T := fun k => match k with
  | 0 => ("TaxEngine$Credits", "sizes", "[I", true)
  | 1 => ("TaxEngine$Credits", "worths", "[I", true)
  | 2 => ("TaxEngine$Credits", "order", "[I", true)
  | 3 => ("TaxEngine$Credits", "best", "[I", true)
  | _ => ("TaxEngine$Credits", "count", "I", false)
def tyX2 : Nat → FieldType := fun k => match k with
  | 0 => .array .int
  | 1 => .array .int
  | 2 => .array .int
  | 3 => .array .int
  | _ => .int
abbrev wsX20 : List Cond := u_ws RX2 TX2 5
theorem nmX2 : ∀ a, a < 5 → ∀ b, b < 5 → a ≠ b → (TX2 a).2.1 ≠ (TX2 b).2.1 := by decide +kernel
theorem tyX2_ok : ∀ k, k < 5 → parseFieldDescriptor (TX2 k).2.2.1 = some (tyX2 k) := by decide +kernel
abbrev cX2_init : ByteArray := prog_4_method_1_code
def yX2_init : MethodName := ⟨RX2, "<init>", "()V"⟩
abbrev cX2_size : ByteArray := prog_4_method_2_code
def yX2_size : MethodName := ⟨RX2, "size", "()I"⟩
abbrev cX2_add : ByteArray := prog_4_method_3_code
def yX2_add : MethodName := ⟨RX2, "add", "(II)V"⟩
abbrev cX2_dropLast : ByteArray := prog_4_method_4_code
def yX2_dropLast : MethodName := ⟨RX2, "dropLast", "()V"⟩
abbrev cX2_total : ByteArray := prog_4_method_5_code
def yX2_total : MethodName := ⟨RX2, "total", "()I"⟩
abbrev cX2_bestAt : ByteArray := prog_4_method_6_code
def yX2_bestAt : MethodName := ⟨RX2, "bestAt", "(I)I"⟩
abbrev cX2_findBest : ByteArray := prog_4_method_7_code
def yX2_findBest : MethodName := ⟨RX2, "findBest", "(I)I"⟩
abbrev cX2_sumInOrder : ByteArray := prog_4_method_8_code
def yX2_sumInOrder : MethodName := ⟨RX2, "sumInOrder", "(I)I"⟩
abbrev cX2_keepOrder : ByteArray := prog_4_method_9_code
def yX2_keepOrder : MethodName := ⟨RX2, "keepOrder", "()V"⟩
abbrev cX2_toNextOrder : ByteArray := prog_4_method_10_code
def yX2_toNextOrder : MethodName := ⟨RX2, "toNextOrder", "()Z"⟩
abbrev cX2_swap : ByteArray := prog_4_method_11_code
def yX2_swap : MethodName := ⟨RX2, "swap", "(II)V"⟩
def RX3 : String := "TaxEngine$Explanation"
def TX3 : u_T := fun k => match k with
  | 0 => ("TaxEngine$Explanation", "row", "[I", true)
  | 1 => ("TaxEngine$Explanation", "size", "I", false)
  | _ => ("TaxEngine$Explanation", "taken", "I", false)
def tyX3 : Nat → FieldType := fun k => match k with
  | 0 => .array .int
  | 1 => .int
  | _ => .int
abbrev wsX30 : List Cond := u_ws RX3 TX3 3
theorem nmX3 : ∀ a, a < 3 → ∀ b, b < 3 → a ≠ b → (TX3 a).2.1 ≠ (TX3 b).2.1 := by decide +kernel
theorem tyX3_ok : ∀ k, k < 3 → parseFieldDescriptor (TX3 k).2.2.1 = some (tyX3 k) := by decide +kernel
abbrev cX3_init : ByteArray := prog_5_method_1_code
def yX3_init : MethodName := ⟨RX3, "<init>", "()V"⟩
abbrev cX3_explain : ByteArray := prog_5_method_2_code
def yX3_explain : MethodName := ⟨RX3, "explain", "(ILTaxEngine$Sheet;LTaxEngine$Values;)V"⟩
abbrev cX3_lineAt : ByteArray := prog_5_method_3_code
def yX3_lineAt : MethodName := ⟨RX3, "lineAt", "(I)I"⟩
abbrev cX3_add : ByteArray := prog_5_method_4_code
def yX3_add : MethodName := ⟨RX3, "add", "(I)V"⟩
abbrev cX3_addReasons : ByteArray := prog_5_method_5_code
def yX3_addReasons : MethodName := ⟨RX3, "addReasons", "(ILTaxEngine$Sheet;LTaxEngine$Values;)V"⟩
def RX4 : String := "TaxEngine$Plan"
def TX4 : u_T := fun k => match k with
  | 0 => ("TaxEngine$Plan", "reach", "[I", true)
  | 1 => ("TaxEngine$Plan", "groups", "[I", true)
  | 2 => ("TaxEngine$Plan", "order", "[I", true)
  | 3 => ("TaxEngine$Plan", "size", "I", false)
  | 4 => ("TaxEngine$Plan", "placed", "I", false)
  | 5 => ("TaxEngine$Plan", "rising", "I", false)
  | _ => ("TaxEngine$Plan", "falling", "I", false)
def tyX4 : Nat → FieldType := fun k => match k with
  | 0 => .array .int
  | 1 => .array .int
  | 2 => .array .int
  | 3 => .int
  | 4 => .int
  | 5 => .int
  | _ => .int
abbrev wsX40 : List Cond := u_ws RX4 TX4 7
theorem nmX4 : ∀ a, a < 7 → ∀ b, b < 7 → a ≠ b → (TX4 a).2.1 ≠ (TX4 b).2.1 := by decide +kernel
theorem tyX4_ok : ∀ k, k < 7 → parseFieldDescriptor (TX4 k).2.2.1 = some (tyX4 k) := by decide +kernel
abbrev cX4_init : ByteArray := prog_6_method_1_code
def yX4_init : MethodName := ⟨RX4, "<init>", "()V"⟩
abbrev cX4_make : ByteArray := prog_6_method_2_code
def yX4_make : MethodName := ⟨RX4, "make", "(LTaxEngine$Sheet;)Z"⟩
abbrev cX4_reach : ByteArray := prog_6_method_3_code
def yX4_reach : MethodName := ⟨RX4, "reach", "(I)I"⟩
abbrev cX4_isCircular : ByteArray := prog_6_method_4_code
def yX4_isCircular : MethodName := ⟨RX4, "isCircular", "(I)Z"⟩
abbrev cX4_groupOf : ByteArray := prog_6_method_5_code
def yX4_groupOf : MethodName := ⟨RX4, "groupOf", "(I)I"⟩
abbrev cX4_lineAt : ByteArray := prog_6_method_6_code
def yX4_lineAt : MethodName := ⟨RX4, "lineAt", "(I)I"⟩
abbrev cX4_placeOf : ByteArray := prog_6_method_7_code
def yX4_placeOf : MethodName := ⟨RX4, "placeOf", "(I)I"⟩
abbrev cX4_findReach : ByteArray := prog_6_method_8_code
def yX4_findReach : MethodName := ⟨RX4, "findReach", "(LTaxEngine$Sheet;)V"⟩
abbrev cX4_findGroups : ByteArray := prog_6_method_9_code
def yX4_findGroups : MethodName := ⟨RX4, "findGroups", "()V"⟩
abbrev cX4_isReady : ByteArray := prog_6_method_10_code
def yX4_isReady : MethodName := ⟨RX4, "isReady", "(I)Z"⟩
abbrev cX4_place : ByteArray := prog_6_method_11_code
def yX4_place : MethodName := ⟨RX4, "place", "(I)V"⟩
abbrev cX4_placeCircle : ByteArray := prog_6_method_12_code
def yX4_placeCircle : MethodName := ⟨RX4, "placeCircle", "(LTaxEngine$Sheet;I)Z"⟩
abbrev cX4_onlyLimit : ByteArray := prog_6_method_13_code
def yX4_onlyLimit : MethodName := ⟨RX4, "onlyLimit", "(LTaxEngine$Sheet;I)I"⟩
abbrev cX4_direct : ByteArray := prog_6_method_14_code
def yX4_direct : MethodName := ⟨RX4, "direct", "(LTaxEngine$Sheet;I)V"⟩
def RX5 : String := "TaxEngine$Sheet"
def TX5 : u_T := fun k => match k with
  | 0 => ("TaxEngine$Sheet", "kinds", "[I", true)
  | 1 => ("TaxEngine$Sheet", "firsts", "[I", true)
  | 2 => ("TaxEngine$Sheet", "seconds", "[I", true)
  | _ => ("TaxEngine$Sheet", "answers", "[I", true)
def tyX5 : Nat → FieldType := fun k => match k with
  | 0 => .array .int
  | 1 => .array .int
  | 2 => .array .int
  | _ => .array .int
abbrev wsX50 : List Cond := u_ws RX5 TX5 4
theorem nmX5 : ∀ a, a < 4 → ∀ b, b < 4 → a ≠ b → (TX5 a).2.1 ≠ (TX5 b).2.1 := by decide +kernel
theorem tyX5_ok : ∀ k, k < 4 → parseFieldDescriptor (TX5 k).2.2.1 = some (tyX5 k) := by decide +kernel
abbrev cX5_init : ByteArray := prog_7_method_1_code
def yX5_init : MethodName := ⟨RX5, "<init>", "()V"⟩
abbrev cX5_set : ByteArray := prog_7_method_2_code
def yX5_set : MethodName := ⟨RX5, "set", "(IIII)V"⟩
abbrev cX5_kind : ByteArray := prog_7_method_3_code
def yX5_kind : MethodName := ⟨RX5, "kind", "(I)I"⟩
abbrev cX5_first : ByteArray := prog_7_method_4_code
def yX5_first : MethodName := ⟨RX5, "first", "(I)I"⟩
abbrev cX5_second : ByteArray := prog_7_method_5_code
def yX5_second : MethodName := ⟨RX5, "second", "(I)I"⟩
abbrev cX5_given : ByteArray := prog_7_method_6_code
def yX5_given : MethodName := ⟨RX5, "given", "(I)I"⟩
abbrev cX5_give : ByteArray := prog_7_method_7_code
def yX5_give : MethodName := ⟨RX5, "give", "(II)V"⟩
abbrev cX5_uses : ByteArray := prog_7_method_8_code
def yX5_uses : MethodName := ⟨RX5, "uses", "(I)I"⟩
def RX6 : String := "TaxEngine$Values"
def TX6 : u_T := fun k => match k with
  | 0 => ("TaxEngine$Values", "sheet", "LTaxEngine$Sheet;", true)
  | 1 => ("TaxEngine$Values", "plan", "LTaxEngine$Plan;", true)
  | 2 => ("TaxEngine$Values", "brackets", "LTaxEngine$Brackets;", true)
  | 3 => ("TaxEngine$Values", "amounts", "LTaxEngine$Amounts;", true)
  | 4 => ("TaxEngine$Values", "numbers", "[I", true)
  | _ => ("TaxEngine$Values", "raised", "I", false)
def tyX6 : Nat → FieldType := fun k => match k with
  | 0 => .object "TaxEngine$Sheet"
  | 1 => .object "TaxEngine$Plan"
  | 2 => .object "TaxEngine$Brackets"
  | 3 => .object "TaxEngine$Amounts"
  | 4 => .array .int
  | _ => .int
abbrev wsX60 : List Cond := u_ws RX6 TX6 6
theorem nmX6 : ∀ a, a < 6 → ∀ b, b < 6 → a ≠ b → (TX6 a).2.1 ≠ (TX6 b).2.1 := by decide +kernel
theorem tyX6_ok : ∀ k, k < 6 → parseFieldDescriptor (TX6 k).2.2.1 = some (tyX6 k) := by decide +kernel
abbrev cX6_init : ByteArray := prog_8_method_1_code
def yX6_init : MethodName := ⟨RX6, "<init>", "(LTaxEngine$Sheet;LTaxEngine$Plan;LTaxEngine$Brackets;LTaxEngine$Amounts;)V"⟩
abbrev cX6_of : ByteArray := prog_8_method_2_code
def yX6_of : MethodName := ⟨RX6, "of", "(I)I"⟩
abbrev cX6_workOut : ByteArray := prog_8_method_3_code
def yX6_workOut : MethodName := ⟨RX6, "workOut", "(I)V"⟩
abbrev cX6_suppose : ByteArray := prog_8_method_4_code
def yX6_suppose : MethodName := ⟨RX6, "suppose", "(II)V"⟩
abbrev cX6_greatest : ByteArray := prog_8_method_5_code
def yX6_greatest : MethodName := ⟨RX6, "greatest", "(I)I"⟩
abbrev cX6_plain : ByteArray := prog_8_method_6_code
def yX6_plain : MethodName := ⟨RX6, "plain", "(I)I"⟩
def RX7 : String := "TaxEngine"
def TX7 : u_T := fun k => match k with
  | 0 => ("TaxEngine", "sheet", "LTaxEngine$Sheet;", true)
  | 1 => ("TaxEngine", "plan", "LTaxEngine$Plan;", true)
  | 2 => ("TaxEngine", "brackets", "LTaxEngine$Brackets;", true)
  | 3 => ("TaxEngine", "amounts", "LTaxEngine$Amounts;", true)
  | 4 => ("TaxEngine", "credits", "LTaxEngine$Credits;", true)
  | 5 => ("TaxEngine", "values", "LTaxEngine$Values;", true)
  | 6 => ("TaxEngine", "raisedValues", "LTaxEngine$Values;", true)
  | _ => ("TaxEngine", "explanation", "LTaxEngine$Explanation;", true)
def tyX7 : Nat → FieldType := fun k => match k with
  | 0 => .object "TaxEngine$Sheet"
  | 1 => .object "TaxEngine$Plan"
  | 2 => .object "TaxEngine$Brackets"
  | 3 => .object "TaxEngine$Amounts"
  | 4 => .object "TaxEngine$Credits"
  | 5 => .object "TaxEngine$Values"
  | 6 => .object "TaxEngine$Values"
  | _ => .object "TaxEngine$Explanation"
abbrev wsX70 : List Cond := u_ws RX7 TX7 8
theorem nmX7 : ∀ a, a < 8 → ∀ b, b < 8 → a ≠ b → (TX7 a).2.1 ≠ (TX7 b).2.1 := by decide +kernel
theorem tyX7_ok : ∀ k, k < 8 → parseFieldDescriptor (TX7 k).2.2.1 = some (tyX7 k) := by decide +kernel
abbrev cX7_init : ByteArray := prog_1_method_1_code
def yX7_init : MethodName := ⟨RX7, "<init>", "()V"⟩
abbrev cX7_define : ByteArray := prog_1_method_2_code
def yX7_define : MethodName := ⟨RX7, "define", "(IIII)V"⟩
abbrev cX7_answer : ByteArray := prog_1_method_3_code
def yX7_answer : MethodName := ⟨RX7, "answer", "(II)I"⟩
abbrev cX7_kindOf : ByteArray := prog_1_method_4_code
def yX7_kindOf : MethodName := ⟨RX7, "kindOf", "(I)I"⟩
abbrev cX7_value : ByteArray := prog_1_method_5_code
def yX7_value : MethodName := ⟨RX7, "value", "(I)I"⟩
abbrev cX7_boundFor : ByteArray := prog_1_method_6_code
def yX7_boundFor : MethodName := ⟨RX7, "boundFor", "(II)I"⟩
abbrev cX7_dependsOn : ByteArray := prog_1_method_7_code
def yX7_dependsOn : MethodName := ⟨RX7, "dependsOn", "(II)Z"⟩
abbrev cX7_influence : ByteArray := prog_1_method_8_code
def yX7_influence : MethodName := ⟨RX7, "influence", "(I)I"⟩
abbrev cX7_why : ByteArray := prog_1_method_9_code
def yX7_why : MethodName := ⟨RX7, "why", "(II)I"⟩
abbrev cX7_bracket : ByteArray := prog_1_method_10_code
def yX7_bracket : MethodName := ⟨RX7, "bracket", "(II)I"⟩
abbrev cX7_dropBrackets : ByteArray := prog_1_method_11_code
def yX7_dropBrackets : MethodName := ⟨RX7, "dropBrackets", "()I"⟩
abbrev cX7_taxOn : ByteArray := prog_1_method_12_code
def yX7_taxOn : MethodName := ⟨RX7, "taxOn", "(I)I"⟩
abbrev cX7_carry : ByteArray := prog_1_method_13_code
def yX7_carry : MethodName := ⟨RX7, "carry", "(II)I"⟩
abbrev cX7_carried : ByteArray := prog_1_method_14_code
def yX7_carried : MethodName := ⟨RX7, "carried", "()I"⟩
abbrev cX7_carriedAt : ByteArray := prog_1_method_15_code
def yX7_carriedAt : MethodName := ⟨RX7, "carriedAt", "(I)I"⟩
abbrev cX7_year : ByteArray := prog_1_method_16_code
def yX7_year : MethodName := ⟨RX7, "year", "()I"⟩
abbrev cX7_closeYear : ByteArray := prog_1_method_17_code
def yX7_closeYear : MethodName := ⟨RX7, "closeYear", "()I"⟩
abbrev cX7_addCredit : ByteArray := prog_1_method_18_code
def yX7_addCredit : MethodName := ⟨RX7, "addCredit", "(II)I"⟩
abbrev cX7_dropCredit : ByteArray := prog_1_method_19_code
def yX7_dropCredit : MethodName := ⟨RX7, "dropCredit", "()I"⟩
abbrev cX7_creditAt : ByteArray := prog_1_method_20_code
def yX7_creditAt : MethodName := ⟨RX7, "creditAt", "(II)I"⟩
abbrev cX7_afterCredits : ByteArray := prog_1_method_21_code
def yX7_afterCredits : MethodName := ⟨RX7, "afterCredits", "(I)I"⟩
abbrev cX7_bestSum : ByteArray := prog_1_method_22_code
def yX7_bestSum : MethodName := ⟨RX7, "bestSum", "(I)I"⟩
abbrev cX7_checkLine : ByteArray := prog_1_method_23_code
def yX7_checkLine : MethodName := ⟨RX7, "checkLine", "(I)V"⟩
abbrev cX7_checkPlace : ByteArray := prog_1_method_24_code
def yX7_checkPlace : MethodName := ⟨RX7, "checkPlace", "(Z)V"⟩
abbrev cX7_checkArgument : ByteArray := prog_1_method_25_code
def yX7_checkArgument : MethodName := ⟨RX7, "checkArgument", "(Z)V"⟩
abbrev cX7_checkState : ByteArray := prog_1_method_26_code
def yX7_checkState : MethodName := ⟨RX7, "checkState", "(Z)V"⟩
abbrev cX7_isWithin : ByteArray := prog_1_method_27_code
def yX7_isWithin : MethodName := ⟨RX7, "isWithin", "(III)Z"⟩
abbrev cX7_takesFirst : ByteArray := prog_1_method_28_code
def yX7_takesFirst : MethodName := ⟨RX7, "takesFirst", "(I)Z"⟩
abbrev cX7_takesSecond : ByteArray := prog_1_method_29_code
def yX7_takesSecond : MethodName := ⟨RX7, "takesSecond", "(I)Z"⟩
abbrev cX7_bit : ByteArray := prog_1_method_30_code
def yX7_bit : MethodName := ⟨RX7, "bit", "(I)I"⟩
abbrev cX7_has : ByteArray := prog_1_method_31_code
def yX7_has : MethodName := ⟨RX7, "has", "(II)Z"⟩
abbrev cX7_thousandths : ByteArray := prog_1_method_32_code
def yX7_thousandths : MethodName := ⟨RX7, "thousandths", "(II)I"⟩
abbrev cX7_at : ByteArray := prog_1_method_33_code
def yX7_at : MethodName := ⟨RX7, "at", "([II)I"⟩
abbrev cX7_put : ByteArray := prog_1_method_34_code
def yX7_put : MethodName := ⟨RX7, "put", "([III)V"⟩
def RX8 : String := "TaxEngineModel"
def TX8 : u_T := fun k => match k with
  | 0 => ("TaxEngineModel", "kind", "[I", true)
  | 1 => ("TaxEngineModel", "first", "[I", true)
  | 2 => ("TaxEngineModel", "second", "[I", true)
  | 3 => ("TaxEngineModel", "answer", "[I", true)
  | 4 => ("TaxEngineModel", "brackets", "I", false)
  | 5 => ("TaxEngineModel", "threshold", "[I", true)
  | 6 => ("TaxEngineModel", "rate", "[I", true)
  | 7 => ("TaxEngineModel", "year", "I", false)
  | 8 => ("TaxEngineModel", "amounts", "I", false)
  | 9 => ("TaxEngineModel", "amount", "[I", true)
  | 10 => ("TaxEngineModel", "last", "[I", true)
  | 11 => ("TaxEngineModel", "credits", "I", false)
  | 12 => ("TaxEngineModel", "credit", "[I", true)
  | 13 => ("TaxEngineModel", "worth", "[I", true)
  | 14 => ("TaxEngineModel", "value", "[I", true)
  | 15 => ("TaxEngineModel", "known", "[Z", true)
  | 16 => ("TaxEngineModel", "needs", "[I", true)
  | 17 => ("TaxEngineModel", "moves", "[I", true)
  | 18 => ("TaxEngineModel", "row", "[I", true)
  | 19 => ("TaxEngineModel", "held", "[I", true)
  | 20 => ("TaxEngineModel", "order", "[I", true)
  | 21 => ("TaxEngineModel", "best", "[I", true)
  | 22 => ("TaxEngineModel", "bestSum", "I", false)
  | _ => ("TaxEngineModel", "thrown", "I", false)
def tyX8 : Nat → FieldType := fun k => match k with
  | 0 => .array .int
  | 1 => .array .int
  | 2 => .array .int
  | 3 => .array .int
  | 4 => .int
  | 5 => .array .int
  | 6 => .array .int
  | 7 => .int
  | 8 => .int
  | 9 => .array .int
  | 10 => .array .int
  | 11 => .int
  | 12 => .array .int
  | 13 => .array .int
  | 14 => .array .int
  | 15 => .array .boolean
  | 16 => .array .int
  | 17 => .array .int
  | 18 => .array .int
  | 19 => .array .int
  | 20 => .array .int
  | 21 => .array .int
  | 22 => .int
  | _ => .int
abbrev wsX80 : List Cond := u_ws RX8 TX8 24
theorem nmX8 : ∀ a, a < 24 → ∀ b, b < 24 → a ≠ b → (TX8 a).2.1 ≠ (TX8 b).2.1 := by decide +kernel
theorem tyX8_ok : ∀ k, k < 24 → parseFieldDescriptor (TX8 k).2.2.1 = some (tyX8 k) := by decide +kernel
abbrev cX8_init : ByteArray := prog_10_method_1_code
def yX8_init : MethodName := ⟨RX8, "<init>", "()V"⟩
abbrev cX8_thrown : ByteArray := prog_10_method_2_code
def yX8_thrown : MethodName := ⟨RX8, "thrown", "()I"⟩
abbrev cX8_isIn : ByteArray := prog_10_method_3_code
def yX8_isIn : MethodName := ⟨RX8, "isIn", "(III)Z"⟩
abbrev cX8_isLine : ByteArray := prog_10_method_4_code
def yX8_isLine : MethodName := ⟨RX8, "isLine", "(I)Z"⟩
abbrev cX8_usesFirst : ByteArray := prog_10_method_5_code
def yX8_usesFirst : MethodName := ⟨RX8, "usesFirst", "(I)Z"⟩
abbrev cX8_usesSecond : ByteArray := prog_10_method_6_code
def yX8_usesSecond : MethodName := ⟨RX8, "usesSecond", "(I)Z"⟩
abbrev cX8_laysNeeds : ByteArray := prog_10_method_7_code
def yX8_laysNeeds : MethodName := ⟨RX8, "laysNeeds", "(I)V"⟩
abbrev cX8_depends : ByteArray := prog_10_method_8_code
def yX8_depends : MethodName := ⟨RX8, "depends", "(II)Z"⟩
abbrev cX8_circle : ByteArray := prog_10_method_9_code
def yX8_circle : MethodName := ⟨RX8, "circle", "(I)I"⟩
abbrev cX8_turned : ByteArray := prog_10_method_10_code
def yX8_turned : MethodName := ⟨RX8, "turned", "(I)I"⟩
abbrev cX8_isFalling : ByteArray := prog_10_method_11_code
def yX8_isFalling : MethodName := ⟨RX8, "isFalling", "(II)Z"⟩
abbrev cX8_isAllowed : ByteArray := prog_10_method_12_code
def yX8_isAllowed : MethodName := ⟨RX8, "isAllowed", "()Z"⟩
abbrev cX8_define : ByteArray := prog_10_method_13_code
def yX8_define : MethodName := ⟨RX8, "define", "(IIII)V"⟩
abbrev cX8_answer : ByteArray := prog_10_method_14_code
def yX8_answer : MethodName := ⟨RX8, "answer", "(II)I"⟩
abbrev cX8_kindOf : ByteArray := prog_10_method_15_code
def yX8_kindOf : MethodName := ⟨RX8, "kindOf", "(I)I"⟩
abbrev cX8_taxed : ByteArray := prog_10_method_16_code
def yX8_taxed : MethodName := ⟨RX8, "taxed", "(I)I"⟩
abbrev cX8_all : ByteArray := prog_10_method_17_code
def yX8_all : MethodName := ⟨RX8, "all", "()I"⟩
abbrev cX8_works : ByteArray := prog_10_method_18_code
def yX8_works : MethodName := ⟨RX8, "works", "(II)I"⟩
abbrev cX8_passes : ByteArray := prog_10_method_19_code
def yX8_passes : MethodName := ⟨RX8, "passes", "(I)V"⟩
abbrev cX8_tries : ByteArray := prog_10_method_20_code
def yX8_tries : MethodName := ⟨RX8, "tries", "(II)Z"⟩
abbrev cX8_halves : ByteArray := prog_10_method_21_code
def yX8_halves : MethodName := ⟨RX8, "halves", "(I)V"⟩
abbrev cX8_solves : ByteArray := prog_10_method_22_code
def yX8_solves : MethodName := ⟨RX8, "solves", "(II)V"⟩
abbrev cX8_value : ByteArray := prog_10_method_23_code
def yX8_value : MethodName := ⟨RX8, "value", "(I)I"⟩
abbrev cX8_boundFor : ByteArray := prog_10_method_24_code
def yX8_boundFor : MethodName := ⟨RX8, "boundFor", "(II)I"⟩
abbrev cX8_dependsOn : ByteArray := prog_10_method_25_code
def yX8_dependsOn : MethodName := ⟨RX8, "dependsOn", "(II)Z"⟩
abbrev cX8_influence : ByteArray := prog_10_method_26_code
def yX8_influence : MethodName := ⟨RX8, "influence", "(I)I"⟩
abbrev cX8_why : ByteArray := prog_10_method_27_code
def yX8_why : MethodName := ⟨RX8, "why", "(II)I"⟩
abbrev cX8_bracket : ByteArray := prog_10_method_28_code
def yX8_bracket : MethodName := ⟨RX8, "bracket", "(II)I"⟩
abbrev cX8_dropBrackets : ByteArray := prog_10_method_29_code
def yX8_dropBrackets : MethodName := ⟨RX8, "dropBrackets", "()I"⟩
abbrev cX8_taxOn : ByteArray := prog_10_method_30_code
def yX8_taxOn : MethodName := ⟨RX8, "taxOn", "(I)I"⟩
abbrev cX8_carry : ByteArray := prog_10_method_31_code
def yX8_carry : MethodName := ⟨RX8, "carry", "(II)I"⟩
abbrev cX8_carried : ByteArray := prog_10_method_32_code
def yX8_carried : MethodName := ⟨RX8, "carried", "()I"⟩
abbrev cX8_carriedAt : ByteArray := prog_10_method_33_code
def yX8_carriedAt : MethodName := ⟨RX8, "carriedAt", "(I)I"⟩
abbrev cX8_year : ByteArray := prog_10_method_34_code
def yX8_year : MethodName := ⟨RX8, "year", "()I"⟩
abbrev cX8_spends : ByteArray := prog_10_method_35_code
def yX8_spends : MethodName := ⟨RX8, "spends", "(I)I"⟩
abbrev cX8_closeYear : ByteArray := prog_10_method_36_code
def yX8_closeYear : MethodName := ⟨RX8, "closeYear", "()I"⟩
abbrev cX8_addCredit : ByteArray := prog_10_method_37_code
def yX8_addCredit : MethodName := ⟨RX8, "addCredit", "(II)I"⟩
abbrev cX8_dropCredit : ByteArray := prog_10_method_38_code
def yX8_dropCredit : MethodName := ⟨RX8, "dropCredit", "()I"⟩
abbrev cX8_comes : ByteArray := prog_10_method_39_code
def yX8_comes : MethodName := ⟨RX8, "comes", "(I)I"⟩
abbrev cX8_laysOrder : ByteArray := prog_10_method_40_code
def yX8_laysOrder : MethodName := ⟨RX8, "laysOrder", "(I)Z"⟩
abbrev cX8_orders : ByteArray := prog_10_method_41_code
def yX8_orders : MethodName := ⟨RX8, "orders", "(I)V"⟩
abbrev cX8_creditAt : ByteArray := prog_10_method_42_code
def yX8_creditAt : MethodName := ⟨RX8, "creditAt", "(II)I"⟩
abbrev cX8_afterCredits : ByteArray := prog_10_method_43_code
def yX8_afterCredits : MethodName := ⟨RX8, "afterCredits", "(I)I"⟩
abbrev cX8_bestSum : ByteArray := prog_10_method_44_code
def yX8_bestSum : MethodName := ⟨RX8, "bestSum", "(I)I"⟩
def RJ6 : String := "java/lang/Integer"
def TJ6 : u_T := fun k => match k with
  | _ => ("", "", "", false)
def tyJ6 : Nat → FieldType := fun k => match k with
  | _ => .int
abbrev wsJ60 : List Cond := u_ws RJ6 TJ6 0
theorem nmJ6 : ∀ a, a < 0 → ∀ b, b < 0 → a ≠ b → (TJ6 a).2.1 ≠ (TJ6 b).2.1 := by decide +kernel
theorem tyJ6_ok : ∀ k, k < 0 → parseFieldDescriptor (TJ6 k).2.2.1 = some (tyJ6 k) := by decide +kernel
abbrev cJ6_bitCount_0f7a4 : ByteArray := prog_15_method_49_code
def yJ6_bitCount_0f7a4 : MethodName := ⟨RJ6, "bitCount", "(I)I"⟩
def RJ9 : String := "java/lang/Math"
def TJ9 : u_T := fun k => match k with
  | _ => ("", "", "", false)
def tyJ9 : Nat → FieldType := fun k => match k with
  | _ => .int
abbrev wsJ90 : List Cond := u_ws RJ9 TJ9 0
theorem nmJ9 : ∀ a, a < 0 → ∀ b, b < 0 → a ≠ b → (TJ9 a).2.1 ≠ (TJ9 b).2.1 := by decide +kernel
theorem tyJ9_ok : ∀ k, k < 0 → parseFieldDescriptor (TJ9 k).2.2.1 = some (tyJ9 k) := by decide +kernel
abbrev cJ9_max_7cf53 : ByteArray := prog_16_method_65_code
def yJ9_max_7cf53 : MethodName := ⟨RJ9, "max", "(II)I"⟩
abbrev cJ9_min_7cf53 : ByteArray := prog_16_method_69_code
def yJ9_min_7cf53 : MethodName := ⟨RJ9, "min", "(II)I"⟩
def RL : String := "TaxEngineLaw"
abbrev cL_define : ByteArray := method_3_code
def yL_define : MethodName := ⟨RL, "define", "(LTaxEngine;IIII)I"⟩
abbrev cL_answer : ByteArray := method_4_code
def yL_answer : MethodName := ⟨RL, "answer", "(LTaxEngine;II[J)I"⟩
abbrev cL_kindOf : ByteArray := method_5_code
def yL_kindOf : MethodName := ⟨RL, "kindOf", "(LTaxEngine;I[J)I"⟩
abbrev cL_value : ByteArray := method_6_code
def yL_value : MethodName := ⟨RL, "value", "(LTaxEngine;I[J)I"⟩
abbrev cL_boundFor : ByteArray := method_7_code
def yL_boundFor : MethodName := ⟨RL, "boundFor", "(LTaxEngine;II[J)I"⟩
abbrev cL_dependsOn : ByteArray := method_8_code
def yL_dependsOn : MethodName := ⟨RL, "dependsOn", "(LTaxEngine;II[J)I"⟩
abbrev cL_influence : ByteArray := method_9_code
def yL_influence : MethodName := ⟨RL, "influence", "(LTaxEngine;I[J)I"⟩
abbrev cL_why : ByteArray := method_10_code
def yL_why : MethodName := ⟨RL, "why", "(LTaxEngine;II[J)I"⟩
abbrev cL_bracket : ByteArray := method_11_code
def yL_bracket : MethodName := ⟨RL, "bracket", "(LTaxEngine;II[J)I"⟩
abbrev cL_taxOn : ByteArray := method_12_code
def yL_taxOn : MethodName := ⟨RL, "taxOn", "(LTaxEngine;I[J)I"⟩
abbrev cL_carry : ByteArray := method_13_code
def yL_carry : MethodName := ⟨RL, "carry", "(LTaxEngine;II[J)I"⟩
abbrev cL_carriedAt : ByteArray := method_14_code
def yL_carriedAt : MethodName := ⟨RL, "carriedAt", "(LTaxEngine;I[J)I"⟩
abbrev cL_addCredit : ByteArray := method_15_code
def yL_addCredit : MethodName := ⟨RL, "addCredit", "(LTaxEngine;II[J)I"⟩
abbrev cL_dropCredit : ByteArray := method_16_code
def yL_dropCredit : MethodName := ⟨RL, "dropCredit", "(LTaxEngine;[J)I"⟩
abbrev cL_creditAt : ByteArray := method_17_code
def yL_creditAt : MethodName := ⟨RL, "creditAt", "(LTaxEngine;II[J)I"⟩
abbrev cL_afterCredits : ByteArray := method_18_code
def yL_afterCredits : MethodName := ⟨RL, "afterCredits", "(LTaxEngine;I[J)I"⟩
abbrev cL_bestSum : ByteArray := method_19_code
def yL_bestSum : MethodName := ⟨RL, "bestSum", "(LTaxEngine;I[J)I"⟩
abbrev cL_law : ByteArray := code
def yL_law : MethodName := ⟨RL, "law", "([I)Z"⟩
def wsX0_init : List Cond := .code yX0_init cX0_init 1 none :: ([.methodLink RX0 3 objectInit, .instanceMethod objectInit, .code objectInit ⟨#[0xb1]⟩ 1 none, .arrayClass .int, .fieldLink RX0 9 "TaxEngine$Amounts" "lefts" "[I", .fieldLink RX0 15 "TaxEngine$Amounts" "lasts" "[I"] ++ wsX00)
def wsX0_now : List Cond := .code yX0_now cX0_now 1 (some .int) :: ([.fieldLink RX0 18 "TaxEngine$Amounts" "now" "I"] ++ wsX00)
def wsX0_size : List Cond := .code yX0_size cX0_size 1 (some .int) :: ([.fieldLink RX0 22 "TaxEngine$Amounts" "count" "I"] ++ wsX00)
def wsX7_at : List Cond := .code yX7_at cX7_at 2 (some .int) :: ([])
def wsX0_leftAt : List Cond := .code yX0_leftAt cX0_leftAt 2 (some .int) :: ([.fieldLink RX0 9 "TaxEngine$Amounts" "lefts" "[I", .static yX7_at, .initialized RX7, .code yX7_at cX7_at 2 (some .int)] ++ wsX00)
def wsX0_total : List Cond := .code yX0_total cX0_total 3 (some .int) :: ([.fieldLink RX0 22 "TaxEngine$Amounts" "count" "I", .methodLink RX0 29 yX0_leftAt, .instanceMethod yX0_leftAt, .selects RX0 yX0_leftAt yX0_leftAt, .initialized RX0, .code yX0_leftAt cX0_leftAt 2 (some .int), .fieldLink RX0 9 "TaxEngine$Amounts" "lefts" "[I", .static yX7_at, .initialized RX7, .code yX7_at cX7_at 2 (some .int)] ++ wsX00)
def wsX7_put : List Cond := .code yX7_put cX7_put 3 none :: ([])
def wsX0_move : List Cond := .code yX0_move cX0_move 3 none :: ([.fieldLink RX0 9 "TaxEngine$Amounts" "lefts" "[I", .fieldLink RX0 15 "TaxEngine$Amounts" "lasts" "[I", .static yX7_at, .initialized RX7, .code yX7_at cX7_at 2 (some .int), .static yX7_put, .code yX7_put cX7_put 3 none] ++ wsX00)
def wsX0_add : List Cond := .code yX0_add cX0_add 4 none :: ([.fieldLink RX0 22 "TaxEngine$Amounts" "count" "I", .fieldLink RX0 15 "TaxEngine$Amounts" "lasts" "[I", .fieldLink RX0 9 "TaxEngine$Amounts" "lefts" "[I", .static yX7_at, .initialized RX7, .code yX7_at cX7_at 2 (some .int), .methodLink RX0 33 yX0_move, .instanceMethod yX0_move, .selects RX0 yX0_move yX0_move, .initialized RX0, .code yX0_move cX0_move 3 none, .static yX7_put, .code yX7_put cX7_put 3 none] ++ wsX00)
def wsX0_take : List Cond := .code yX0_take cX0_take 5 (some .int) :: ([.fieldLink RX0 22 "TaxEngine$Amounts" "count" "I", .methodLink RX0 41 Lib.Math.min.name, .static Lib.Math.min.name, .initialized "java/lang/Math", .code Lib.Math.min.name Lib.Math.min.code 2 (some .int), .fieldLink RX0 9 "TaxEngine$Amounts" "lefts" "[I", .methodLink RX0 29 yX0_leftAt, .instanceMethod yX0_leftAt, .selects RX0 yX0_leftAt yX0_leftAt, .initialized RX0, .code yX0_leftAt cX0_leftAt 2 (some .int), .static yX7_at, .initialized RX7, .code yX7_at cX7_at 2 (some .int), .static yX7_put, .code yX7_put cX7_put 3 none] ++ wsX00)
def wsX0_endYear : List Cond := .code yX0_endYear cX0_endYear 3 none :: ([.fieldLink RX0 22 "TaxEngine$Amounts" "count" "I", .fieldLink RX0 15 "TaxEngine$Amounts" "lasts" "[I", .fieldLink RX0 18 "TaxEngine$Amounts" "now" "I", .methodLink RX0 29 yX0_leftAt, .instanceMethod yX0_leftAt, .selects RX0 yX0_leftAt yX0_leftAt, .initialized RX0, .code yX0_leftAt cX0_leftAt 2 (some .int), .fieldLink RX0 9 "TaxEngine$Amounts" "lefts" "[I", .static yX7_at, .initialized RX7, .code yX7_at cX7_at 2 (some .int), .methodLink RX0 33 yX0_move, .instanceMethod yX0_move, .selects RX0 yX0_move yX0_move, .code yX0_move cX0_move 3 none, .static yX7_put, .code yX7_put cX7_put 3 none] ++ wsX00)
def wsX1_init : List Cond := .code yX1_init cX1_init 1 none :: ([.methodLink RX1 3 objectInit, .instanceMethod objectInit, .code objectInit ⟨#[0xb1]⟩ 1 none, .arrayClass .int, .fieldLink RX1 9 "TaxEngine$Brackets" "thresholds" "[I", .fieldLink RX1 15 "TaxEngine$Brackets" "rates" "[I"] ++ wsX10)
def wsX1_size : List Cond := .code yX1_size cX1_size 1 (some .int) :: ([.fieldLink RX1 18 "TaxEngine$Brackets" "count" "I"] ++ wsX10)
def wsX1_clear : List Cond := .code yX1_clear cX1_clear 1 none :: ([.fieldLink RX1 18 "TaxEngine$Brackets" "count" "I"] ++ wsX10)
def wsX1_placeFor : List Cond := .code yX1_placeFor cX1_placeFor 3 (some .int) :: ([.fieldLink RX1 18 "TaxEngine$Brackets" "count" "I", .fieldLink RX1 9 "TaxEngine$Brackets" "thresholds" "[I", .static yX7_at, .initialized RX7, .code yX7_at cX7_at 2 (some .int)] ++ wsX10)
def wsX1_isAt : List Cond := .code yX1_isAt cX1_isAt 3 (some .boolean) :: ([.fieldLink RX1 18 "TaxEngine$Brackets" "count" "I", .fieldLink RX1 9 "TaxEngine$Brackets" "thresholds" "[I", .static yX7_at, .initialized RX7, .code yX7_at cX7_at 2 (some .int)] ++ wsX10)
def wsX1_hasRoomFor : List Cond := .code yX1_hasRoomFor cX1_hasRoomFor 2 (some .boolean) :: ([.fieldLink RX1 18 "TaxEngine$Brackets" "count" "I", .methodLink RX1 22 yX1_placeFor, .instanceMethod yX1_placeFor, .selects RX1 yX1_placeFor yX1_placeFor, .initialized RX1, .code yX1_placeFor cX1_placeFor 3 (some .int), .fieldLink RX1 9 "TaxEngine$Brackets" "thresholds" "[I", .static yX7_at, .initialized RX7, .code yX7_at cX7_at 2 (some .int), .methodLink RX1 26 yX1_isAt, .instanceMethod yX1_isAt, .selects RX1 yX1_isAt yX1_isAt, .code yX1_isAt cX1_isAt 3 (some .boolean)] ++ wsX10)
def wsX1_set : List Cond := .code yX1_set cX1_set 5 none :: ([.fieldLink RX1 18 "TaxEngine$Brackets" "count" "I", .fieldLink RX1 9 "TaxEngine$Brackets" "thresholds" "[I", .fieldLink RX1 15 "TaxEngine$Brackets" "rates" "[I", .methodLink RX1 22 yX1_placeFor, .instanceMethod yX1_placeFor, .selects RX1 yX1_placeFor yX1_placeFor, .initialized RX1, .code yX1_placeFor cX1_placeFor 3 (some .int), .static yX7_at, .initialized RX7, .code yX7_at cX7_at 2 (some .int), .methodLink RX1 26 yX1_isAt, .instanceMethod yX1_isAt, .selects RX1 yX1_isAt yX1_isAt, .code yX1_isAt cX1_isAt 3 (some .boolean), .static yX7_put, .code yX7_put cX7_put 3 none] ++ wsX10)
def wsX7_thousandths : List Cond := .code yX7_thousandths cX7_thousandths 2 (some .int) :: ([.constantLong RX7 205 (1000)])
def wsX1_tax : List Cond := .code yX1_tax cX1_tax 6 (some .int) :: ([.fieldLink RX1 18 "TaxEngine$Brackets" "count" "I", .fieldLink RX1 9 "TaxEngine$Brackets" "thresholds" "[I", .methodLink RX1 38 Lib.Math.min.name, .static Lib.Math.min.name, .initialized "java/lang/Math", .code Lib.Math.min.name Lib.Math.min.code 2 (some .int), .methodLink RX1 44 Lib.Math.max.name, .static Lib.Math.max.name, .code Lib.Math.max.name Lib.Math.max.code 2 (some .int), .fieldLink RX1 15 "TaxEngine$Brackets" "rates" "[I", .static yX7_at, .initialized RX7, .code yX7_at cX7_at 2 (some .int), .static yX7_thousandths, .code yX7_thousandths cX7_thousandths 2 (some .int), .constantLong RX7 205 (1000)] ++ wsX10)
def wsX2_init : List Cond := .code yX2_init cX2_init 1 none :: ([.methodLink RX2 3 objectInit, .instanceMethod objectInit, .code objectInit ⟨#[0xb1]⟩ 1 none, .arrayClass .int, .fieldLink RX2 9 "TaxEngine$Credits" "sizes" "[I", .fieldLink RX2 15 "TaxEngine$Credits" "worths" "[I", .fieldLink RX2 18 "TaxEngine$Credits" "order" "[I", .fieldLink RX2 21 "TaxEngine$Credits" "best" "[I"] ++ wsX20)
def wsX2_size : List Cond := .code yX2_size cX2_size 1 (some .int) :: ([.fieldLink RX2 24 "TaxEngine$Credits" "count" "I"] ++ wsX20)
def wsX2_add : List Cond := .code yX2_add cX2_add 3 none :: ([.fieldLink RX2 9 "TaxEngine$Credits" "sizes" "[I", .fieldLink RX2 24 "TaxEngine$Credits" "count" "I", .fieldLink RX2 15 "TaxEngine$Credits" "worths" "[I", .static yX7_put, .initialized RX7, .code yX7_put cX7_put 3 none] ++ wsX20)
def wsX2_dropLast : List Cond := .code yX2_dropLast cX2_dropLast 1 none :: ([.fieldLink RX2 24 "TaxEngine$Credits" "count" "I"] ++ wsX20)
def wsX2_total : List Cond := .code yX2_total cX2_total 3 (some .int) :: ([.fieldLink RX2 24 "TaxEngine$Credits" "count" "I", .fieldLink RX2 9 "TaxEngine$Credits" "sizes" "[I", .static yX7_at, .initialized RX7, .code yX7_at cX7_at 2 (some .int)] ++ wsX20)
def wsX2_bestAt : List Cond := .code yX2_bestAt cX2_bestAt 2 (some .int) :: ([.fieldLink RX2 21 "TaxEngine$Credits" "best" "[I", .static yX7_at, .initialized RX7, .code yX7_at cX7_at 2 (some .int)] ++ wsX20)
def wsX2_sumInOrder : List Cond := .code yX2_sumInOrder cX2_sumInOrder 7 (some .int) :: ([.fieldLink RX2 24 "TaxEngine$Credits" "count" "I", .fieldLink RX2 18 "TaxEngine$Credits" "order" "[I", .fieldLink RX2 9 "TaxEngine$Credits" "sizes" "[I", .methodLink RX2 47 Lib.Math.min.name, .static Lib.Math.min.name, .initialized "java/lang/Math", .code Lib.Math.min.name Lib.Math.min.code 2 (some .int), .fieldLink RX2 15 "TaxEngine$Credits" "worths" "[I", .static yX7_at, .initialized RX7, .code yX7_at cX7_at 2 (some .int), .static yX7_thousandths, .code yX7_thousandths cX7_thousandths 2 (some .int), .constantLong RX7 205 (1000)] ++ wsX20)
def wsX2_keepOrder : List Cond := .code yX2_keepOrder cX2_keepOrder 2 none :: ([.fieldLink RX2 24 "TaxEngine$Credits" "count" "I", .fieldLink RX2 21 "TaxEngine$Credits" "best" "[I", .fieldLink RX2 18 "TaxEngine$Credits" "order" "[I", .static yX7_at, .initialized RX7, .code yX7_at cX7_at 2 (some .int), .static yX7_put, .code yX7_put cX7_put 3 none] ++ wsX20)
def wsX2_swap : List Cond := .code yX2_swap cX2_swap 4 none :: ([.fieldLink RX2 18 "TaxEngine$Credits" "order" "[I", .static yX7_at, .initialized RX7, .code yX7_at cX7_at 2 (some .int), .static yX7_put, .code yX7_put cX7_put 3 none] ++ wsX20)
def wsX2_toNextOrder : List Cond := .code yX2_toNextOrder cX2_toNextOrder 5 (some .boolean) :: ([.fieldLink RX2 24 "TaxEngine$Credits" "count" "I", .fieldLink RX2 18 "TaxEngine$Credits" "order" "[I", .static yX7_at, .initialized RX7, .code yX7_at cX7_at 2 (some .int), .methodLink RX2 56 yX2_swap, .instanceMethod yX2_swap, .selects RX2 yX2_swap yX2_swap, .initialized RX2, .code yX2_swap cX2_swap 4 none, .static yX7_put, .code yX7_put cX7_put 3 none] ++ wsX20)
def wsX2_findBest_r1 : List Cond := [Cond.fieldLink RX2 18 "TaxEngine$Credits" "order" "[I", Cond.static yX7_put, Cond.initialized RX7, Cond.code yX7_put cX7_put 3 none, Cond.methodLink RX2 36 yX2_sumInOrder, Cond.instanceMethod yX2_sumInOrder, Cond.selects RX2 yX2_sumInOrder yX2_sumInOrder, Cond.initialized RX2, Cond.code yX2_sumInOrder cX2_sumInOrder 7 (some .int), Cond.fieldLink RX2 24 "TaxEngine$Credits" "count" "I", Cond.fieldLink RX2 9 "TaxEngine$Credits" "sizes" "[I", Cond.methodLink RX2 47 Lib.Math.min.name, Cond.static Lib.Math.min.name, Cond.initialized "java/lang/Math", Cond.code Lib.Math.min.name Lib.Math.min.code 2 (some .int), Cond.fieldLink RX2 15 "TaxEngine$Credits" "worths" "[I", Cond.static yX7_at, Cond.code yX7_at cX7_at 2 (some .int), Cond.static yX7_thousandths, Cond.code yX7_thousandths cX7_thousandths 2 (some .int), Cond.constantLong RX7 205 (1000), Cond.methodLink RX2 40 yX2_keepOrder, Cond.instanceMethod yX2_keepOrder, Cond.selects RX2 yX2_keepOrder yX2_keepOrder]
def wsX2_findBest_r2 : List Cond := [Cond.code yX2_keepOrder cX2_keepOrder 2 none, Cond.fieldLink RX2 21 "TaxEngine$Credits" "best" "[I", Cond.methodLink RX2 43 yX2_toNextOrder, Cond.instanceMethod yX2_toNextOrder, Cond.selects RX2 yX2_toNextOrder yX2_toNextOrder, Cond.code yX2_toNextOrder cX2_toNextOrder 5 (some .boolean), Cond.methodLink RX2 56 yX2_swap, Cond.instanceMethod yX2_swap, Cond.selects RX2 yX2_swap yX2_swap, Cond.code yX2_swap cX2_swap 4 none]
def wsX2_findBest : List Cond := .code yX2_findBest cX2_findBest 6 (some .int) :: ((wsX2_findBest_r1 ++ wsX2_findBest_r2) ++ wsX20)
def wsX3_init : List Cond := .code yX3_init cX3_init 1 none :: ([.methodLink RX3 3 objectInit, .instanceMethod objectInit, .code objectInit ⟨#[0xb1]⟩ 1 none, .arrayClass .int, .fieldLink RX3 9 "TaxEngine$Explanation" "row" "[I"] ++ wsX30)
def wsX7_bit : List Cond := .code yX7_bit cX7_bit 1 (some .int) :: ([])
def wsX7_has : List Cond := .code yX7_has cX7_has 2 (some .boolean) :: ([.methodLink RX7 202 yX7_bit, .static yX7_bit, .initialized RX7, .code yX7_bit cX7_bit 1 (some .int)])
def wsX3_add : List Cond := .code yX3_add cX3_add 2 none :: ([.fieldLink RX3 19 "TaxEngine$Explanation" "taken" "I", .fieldLink RX3 9 "TaxEngine$Explanation" "row" "[I", .fieldLink RX3 15 "TaxEngine$Explanation" "size" "I", .static yX7_has, .initialized RX7, .code yX7_has cX7_has 2 (some .boolean), .methodLink RX7 202 yX7_bit, .static yX7_bit, .code yX7_bit cX7_bit 1 (some .int), .static yX7_put, .code yX7_put cX7_put 3 none] ++ wsX30)
def wsX5_first : List Cond := .code yX5_first cX5_first 2 (some .int) :: ([.fieldLink RX5 15 "TaxEngine$Sheet" "firsts" "[I", .static yX7_at, .initialized RX7, .code yX7_at cX7_at 2 (some .int)] ++ wsX50)
def wsX5_kind : List Cond := .code yX5_kind cX5_kind 2 (some .int) :: ([.fieldLink RX5 9 "TaxEngine$Sheet" "kinds" "[I", .static yX7_at, .initialized RX7, .code yX7_at cX7_at 2 (some .int)] ++ wsX50)
def wsX5_second : List Cond := .code yX5_second cX5_second 2 (some .int) :: ([.fieldLink RX5 18 "TaxEngine$Sheet" "seconds" "[I", .static yX7_at, .initialized RX7, .code yX7_at cX7_at 2 (some .int)] ++ wsX50)
def wsX6_of : List Cond := .code yX6_of cX6_of 2 (some .int) :: ([.fieldLink RX6 9 "TaxEngine$Values" "numbers" "[I", .static yX7_at, .initialized RX7, .code yX7_at cX7_at 2 (some .int)] ++ wsX60)
def wsX3_addReasons_r1 : List Cond := [Cond.methodLink RX3 46 yX5_first, Cond.instanceMethod yX5_first, Cond.selects RX5 yX5_first yX5_first, Cond.initialized RX5, Cond.code yX5_first cX5_first 2 (some .int), Cond.fieldLink RX5 15 "TaxEngine$Sheet" "firsts" "[I", Cond.static yX7_at, Cond.initialized RX7, Cond.code yX7_at cX7_at 2 (some .int), Cond.methodLink RX3 51 yX5_kind, Cond.instanceMethod yX5_kind, Cond.selects RX5 yX5_kind yX5_kind, Cond.code yX5_kind cX5_kind 2 (some .int), Cond.fieldLink RX5 9 "TaxEngine$Sheet" "kinds" "[I", Cond.methodLink RX3 22 yX3_add, Cond.instanceMethod yX3_add, Cond.selects RX3 yX3_add yX3_add, Cond.initialized RX3, Cond.code yX3_add cX3_add 2 none, Cond.fieldLink RX3 19 "TaxEngine$Explanation" "taken" "I", Cond.fieldLink RX3 9 "TaxEngine$Explanation" "row" "[I", Cond.fieldLink RX3 15 "TaxEngine$Explanation" "size" "I", Cond.static yX7_has, Cond.code yX7_has cX7_has 2 (some .boolean)]
def wsX3_addReasons_r2 : List Cond := [Cond.methodLink RX7 202 yX7_bit, Cond.static yX7_bit, Cond.code yX7_bit cX7_bit 1 (some .int), Cond.static yX7_put, Cond.code yX7_put cX7_put 3 none, Cond.methodLink RX3 54 yX5_second, Cond.instanceMethod yX5_second, Cond.selects RX5 yX5_second yX5_second, Cond.code yX5_second cX5_second 2 (some .int), Cond.fieldLink RX5 18 "TaxEngine$Sheet" "seconds" "[I", Cond.methodLink RX3 57 yX6_of, Cond.instanceMethod yX6_of, Cond.selects RX6 yX6_of yX6_of, Cond.initialized RX6, Cond.code yX6_of cX6_of 2 (some .int), Cond.fieldLink RX6 9 "TaxEngine$Values" "numbers" "[I"]
def wsX3_addReasons : List Cond := .code yX3_addReasons cX3_addReasons 5 none :: ((wsX3_addReasons_r1 ++ wsX3_addReasons_r2) ++ wsX50 ++ wsX30 ++ wsX60)
def wsX3_explain_r1 : List Cond := [Cond.fieldLink RX3 15 "TaxEngine$Explanation" "size" "I", Cond.fieldLink RX3 19 "TaxEngine$Explanation" "taken" "I", Cond.fieldLink RX3 9 "TaxEngine$Explanation" "row" "[I", Cond.methodLink RX3 22 yX3_add, Cond.instanceMethod yX3_add, Cond.selects RX3 yX3_add yX3_add, Cond.initialized RX3, Cond.code yX3_add cX3_add 2 none, Cond.static yX7_has, Cond.initialized RX7, Cond.code yX7_has cX7_has 2 (some .boolean), Cond.methodLink RX7 202 yX7_bit, Cond.static yX7_bit, Cond.code yX7_bit cX7_bit 1 (some .int), Cond.static yX7_put, Cond.code yX7_put cX7_put 3 none, Cond.static yX7_at, Cond.code yX7_at cX7_at 2 (some .int), Cond.methodLink RX3 30 yX3_addReasons, Cond.instanceMethod yX3_addReasons, Cond.selects RX3 yX3_addReasons yX3_addReasons, Cond.code yX3_addReasons cX3_addReasons 5 none, Cond.methodLink RX3 46 yX5_first, Cond.instanceMethod yX5_first]
def wsX3_explain_r2 : List Cond := [Cond.selects RX5 yX5_first yX5_first, Cond.initialized RX5, Cond.code yX5_first cX5_first 2 (some .int), Cond.fieldLink RX5 15 "TaxEngine$Sheet" "firsts" "[I", Cond.methodLink RX3 51 yX5_kind, Cond.instanceMethod yX5_kind, Cond.selects RX5 yX5_kind yX5_kind, Cond.code yX5_kind cX5_kind 2 (some .int), Cond.fieldLink RX5 9 "TaxEngine$Sheet" "kinds" "[I", Cond.methodLink RX3 54 yX5_second, Cond.instanceMethod yX5_second, Cond.selects RX5 yX5_second yX5_second, Cond.code yX5_second cX5_second 2 (some .int), Cond.fieldLink RX5 18 "TaxEngine$Sheet" "seconds" "[I", Cond.methodLink RX3 57 yX6_of, Cond.instanceMethod yX6_of, Cond.selects RX6 yX6_of yX6_of, Cond.initialized RX6, Cond.code yX6_of cX6_of 2 (some .int), Cond.fieldLink RX6 9 "TaxEngine$Values" "numbers" "[I"]
def wsX3_explain : List Cond := .code yX3_explain cX3_explain 5 none :: ((wsX3_explain_r1 ++ wsX3_explain_r2) ++ wsX30 ++ wsX50 ++ wsX60)
def wsX3_lineAt : List Cond := .code yX3_lineAt cX3_lineAt 2 (some .int) :: ([.fieldLink RX3 15 "TaxEngine$Explanation" "size" "I", .fieldLink RX3 9 "TaxEngine$Explanation" "row" "[I", .static yX7_at, .initialized RX7, .code yX7_at cX7_at 2 (some .int)] ++ wsX30)
def wsX4_init : List Cond := .code yX4_init cX4_init 1 none :: ([.methodLink RX4 3 objectInit, .instanceMethod objectInit, .code objectInit ⟨#[0xb1]⟩ 1 none, .arrayClass .int, .fieldLink RX4 9 "TaxEngine$Plan" "reach" "[I", .fieldLink RX4 15 "TaxEngine$Plan" "groups" "[I", .fieldLink RX4 18 "TaxEngine$Plan" "order" "[I"] ++ wsX40)
def wsX7_takesFirst : List Cond := .code yX7_takesFirst cX7_takesFirst 1 (some .boolean) :: ([])
def wsX7_takesSecond : List Cond := .code yX7_takesSecond cX7_takesSecond 1 (some .boolean) :: ([])
def wsX5_uses_r1 : List Cond := [Cond.methodLink RX5 32 yX5_kind, Cond.instanceMethod yX5_kind, Cond.selects RX5 yX5_kind yX5_kind, Cond.initialized RX5, Cond.code yX5_kind cX5_kind 2 (some .int), Cond.fieldLink RX5 9 "TaxEngine$Sheet" "kinds" "[I", Cond.static yX7_at, Cond.initialized RX7, Cond.code yX7_at cX7_at 2 (some .int), Cond.static yX7_takesFirst, Cond.code yX7_takesFirst cX7_takesFirst 1 (some .boolean), Cond.methodLink RX5 40 yX5_first, Cond.instanceMethod yX5_first, Cond.selects RX5 yX5_first yX5_first, Cond.code yX5_first cX5_first 2 (some .int), Cond.fieldLink RX5 15 "TaxEngine$Sheet" "firsts" "[I", Cond.static yX7_bit, Cond.code yX7_bit cX7_bit 1 (some .int), Cond.static yX7_takesSecond, Cond.code yX7_takesSecond cX7_takesSecond 1 (some .boolean), Cond.methodLink RX5 49 yX5_second, Cond.instanceMethod yX5_second, Cond.selects RX5 yX5_second yX5_second, Cond.code yX5_second cX5_second 2 (some .int)]
def wsX5_uses_r2 : List Cond := [Cond.fieldLink RX5 18 "TaxEngine$Sheet" "seconds" "[I"]
def wsX5_uses : List Cond := .code yX5_uses cX5_uses 4 (some .int) :: ((wsX5_uses_r1 ++ wsX5_uses_r2) ++ wsX50)
def wsX4_reach : List Cond := .code yX4_reach cX4_reach 2 (some .int) :: ([.fieldLink RX4 9 "TaxEngine$Plan" "reach" "[I", .static yX7_at, .initialized RX7, .code yX7_at cX7_at 2 (some .int)] ++ wsX40)
def wsX4_findReach_r1 : List Cond := [Cond.fieldLink RX4 9 "TaxEngine$Plan" "reach" "[I", Cond.methodLink RX4 68 yX5_uses, Cond.instanceMethod yX5_uses, Cond.selects RX5 yX5_uses yX5_uses, Cond.initialized RX5, Cond.code yX5_uses cX5_uses 4 (some .int), Cond.methodLink RX5 32 yX5_kind, Cond.instanceMethod yX5_kind, Cond.selects RX5 yX5_kind yX5_kind, Cond.code yX5_kind cX5_kind 2 (some .int), Cond.fieldLink RX5 9 "TaxEngine$Sheet" "kinds" "[I", Cond.static yX7_at, Cond.initialized RX7, Cond.code yX7_at cX7_at 2 (some .int), Cond.static yX7_takesFirst, Cond.code yX7_takesFirst cX7_takesFirst 1 (some .boolean), Cond.methodLink RX5 40 yX5_first, Cond.instanceMethod yX5_first, Cond.selects RX5 yX5_first yX5_first, Cond.code yX5_first cX5_first 2 (some .int), Cond.fieldLink RX5 15 "TaxEngine$Sheet" "firsts" "[I", Cond.static yX7_bit, Cond.code yX7_bit cX7_bit 1 (some .int), Cond.static yX7_takesSecond]
def wsX4_findReach_r2 : List Cond := [Cond.code yX7_takesSecond cX7_takesSecond 1 (some .boolean), Cond.methodLink RX5 49 yX5_second, Cond.instanceMethod yX5_second, Cond.selects RX5 yX5_second yX5_second, Cond.code yX5_second cX5_second 2 (some .int), Cond.fieldLink RX5 18 "TaxEngine$Sheet" "seconds" "[I", Cond.static yX7_put, Cond.code yX7_put cX7_put 3 none, Cond.methodLink RX4 59 yX4_reach, Cond.instanceMethod yX4_reach, Cond.selects RX4 yX4_reach yX4_reach, Cond.initialized RX4, Cond.code yX4_reach cX4_reach 2 (some .int), Cond.static yX7_has, Cond.code yX7_has cX7_has 2 (some .boolean), Cond.methodLink RX7 202 yX7_bit]
def wsX4_findReach : List Cond := .code yX4_findReach cX4_findReach 4 none :: ((wsX4_findReach_r1 ++ wsX4_findReach_r2) ++ wsX40 ++ wsX50)
def wsX4_findGroups : List Cond := .code yX4_findGroups cX4_findGroups 4 none :: ([.fieldLink RX4 15 "TaxEngine$Plan" "groups" "[I", .static yX7_bit, .initialized RX7, .code yX7_bit cX7_bit 1 (some .int), .methodLink RX4 59 yX4_reach, .instanceMethod yX4_reach, .selects RX4 yX4_reach yX4_reach, .initialized RX4, .code yX4_reach cX4_reach 2 (some .int), .fieldLink RX4 9 "TaxEngine$Plan" "reach" "[I", .static yX7_at, .code yX7_at cX7_at 2 (some .int), .static yX7_has, .code yX7_has cX7_has 2 (some .boolean), .methodLink RX7 202 yX7_bit, .static yX7_put, .code yX7_put cX7_put 3 none] ++ wsX40)
def wsX4_groupOf : List Cond := .code yX4_groupOf cX4_groupOf 2 (some .int) :: ([.fieldLink RX4 15 "TaxEngine$Plan" "groups" "[I", .static yX7_at, .initialized RX7, .code yX7_at cX7_at 2 (some .int)] ++ wsX40)
def wsX4_isReady : List Cond := .code yX4_isReady cX4_isReady 2 (some .boolean) :: ([.fieldLink RX4 32 "TaxEngine$Plan" "placed" "I", .static yX7_has, .initialized RX7, .code yX7_has cX7_has 2 (some .boolean), .methodLink RX7 202 yX7_bit, .static yX7_bit, .code yX7_bit cX7_bit 1 (some .int), .methodLink RX4 59 yX4_reach, .instanceMethod yX4_reach, .selects RX4 yX4_reach yX4_reach, .initialized RX4, .code yX4_reach cX4_reach 2 (some .int), .fieldLink RX4 9 "TaxEngine$Plan" "reach" "[I", .static yX7_at, .code yX7_at cX7_at 2 (some .int), .methodLink RX4 47 yX4_groupOf, .instanceMethod yX4_groupOf, .selects RX4 yX4_groupOf yX4_groupOf, .code yX4_groupOf cX4_groupOf 2 (some .int), .fieldLink RX4 15 "TaxEngine$Plan" "groups" "[I"] ++ wsX40)
def wsX4_isCircular : List Cond := .code yX4_isCircular cX4_isCircular 2 (some .boolean) :: ([.methodLink RX4 59 yX4_reach, .instanceMethod yX4_reach, .selects RX4 yX4_reach yX4_reach, .initialized RX4, .code yX4_reach cX4_reach 2 (some .int), .fieldLink RX4 9 "TaxEngine$Plan" "reach" "[I", .static yX7_at, .initialized RX7, .code yX7_at cX7_at 2 (some .int), .static yX7_has, .code yX7_has cX7_has 2 (some .boolean), .methodLink RX7 202 yX7_bit, .static yX7_bit, .code yX7_bit cX7_bit 1 (some .int)] ++ wsX40)
def wsX4_place : List Cond := .code yX4_place cX4_place 2 none :: ([.fieldLink RX4 18 "TaxEngine$Plan" "order" "[I", .fieldLink RX4 28 "TaxEngine$Plan" "size" "I", .fieldLink RX4 32 "TaxEngine$Plan" "placed" "I", .static yX7_put, .initialized RX7, .code yX7_put cX7_put 3 none, .static yX7_bit, .code yX7_bit cX7_bit 1 (some .int)] ++ wsX40)
def wsX4_onlyLimit : List Cond := .code yX4_onlyLimit cX4_onlyLimit 5 (some .int) :: ([.static yX7_has, .initialized RX7, .code yX7_has cX7_has 2 (some .boolean), .methodLink RX7 202 yX7_bit, .static yX7_bit, .code yX7_bit cX7_bit 1 (some .int), .methodLink RX4 100 yX5_kind, .instanceMethod yX5_kind, .selects RX5 yX5_kind yX5_kind, .initialized RX5, .code yX5_kind cX5_kind 2 (some .int), .fieldLink RX5 9 "TaxEngine$Sheet" "kinds" "[I", .static yX7_at, .code yX7_at cX7_at 2 (some .int)] ++ wsX50)
def wsX4_direct_r1 : List Cond := [Cond.fieldLink RX4 87 "TaxEngine$Plan" "rising" "I", Cond.fieldLink RX4 90 "TaxEngine$Plan" "falling" "I", Cond.methodLink RX4 100 yX5_kind, Cond.instanceMethod yX5_kind, Cond.selects RX5 yX5_kind yX5_kind, Cond.initialized RX5, Cond.code yX5_kind cX5_kind 2 (some .int), Cond.fieldLink RX5 9 "TaxEngine$Sheet" "kinds" "[I", Cond.static yX7_at, Cond.initialized RX7, Cond.code yX7_at cX7_at 2 (some .int), Cond.methodLink RX4 84 yX5_first, Cond.instanceMethod yX5_first, Cond.selects RX5 yX5_first yX5_first, Cond.code yX5_first cX5_first 2 (some .int), Cond.fieldLink RX5 15 "TaxEngine$Sheet" "firsts" "[I", Cond.static yX7_bit, Cond.code yX7_bit cX7_bit 1 (some .int), Cond.methodLink RX4 68 yX5_uses, Cond.instanceMethod yX5_uses, Cond.selects RX5 yX5_uses yX5_uses, Cond.code yX5_uses cX5_uses 4 (some .int), Cond.methodLink RX5 32 yX5_kind, Cond.static yX7_takesFirst]
def wsX4_direct_r2 : List Cond := [Cond.code yX7_takesFirst cX7_takesFirst 1 (some .boolean), Cond.methodLink RX5 40 yX5_first, Cond.static yX7_takesSecond, Cond.code yX7_takesSecond cX7_takesSecond 1 (some .boolean), Cond.methodLink RX5 49 yX5_second, Cond.instanceMethod yX5_second, Cond.selects RX5 yX5_second yX5_second, Cond.code yX5_second cX5_second 2 (some .int), Cond.fieldLink RX5 18 "TaxEngine$Sheet" "seconds" "[I", Cond.methodLink RX4 97 yX5_second]
def wsX4_direct : List Cond := .code yX4_direct cX4_direct 8 none :: ((wsX4_direct_r1 ++ wsX4_direct_r2) ++ wsX40 ++ wsX50)
def wsX4_placeCircle_r1 : List Cond := [Cond.fieldLink RX4 87 "TaxEngine$Plan" "rising" "I", Cond.fieldLink RX4 90 "TaxEngine$Plan" "falling" "I", Cond.fieldLink RX4 32 "TaxEngine$Plan" "placed" "I", Cond.methodLink RX4 80 yX4_onlyLimit, Cond.instanceMethod yX4_onlyLimit, Cond.selects RX4 yX4_onlyLimit yX4_onlyLimit, Cond.initialized RX4, Cond.code yX4_onlyLimit cX4_onlyLimit 5 (some .int), Cond.static yX7_has, Cond.initialized RX7, Cond.code yX7_has cX7_has 2 (some .boolean), Cond.methodLink RX7 202 yX7_bit, Cond.static yX7_bit, Cond.code yX7_bit cX7_bit 1 (some .int), Cond.methodLink RX4 100 yX5_kind, Cond.instanceMethod yX5_kind, Cond.selects RX5 yX5_kind yX5_kind, Cond.initialized RX5, Cond.code yX5_kind cX5_kind 2 (some .int), Cond.fieldLink RX5 9 "TaxEngine$Sheet" "kinds" "[I", Cond.static yX7_at, Cond.code yX7_at cX7_at 2 (some .int), Cond.methodLink RX4 84 yX5_first, Cond.instanceMethod yX5_first]
def wsX4_placeCircle_r2 : List Cond := [Cond.selects RX5 yX5_first yX5_first, Cond.code yX5_first cX5_first 2 (some .int), Cond.fieldLink RX5 15 "TaxEngine$Sheet" "firsts" "[I", Cond.methodLink RX4 43 yX4_place, Cond.instanceMethod yX4_place, Cond.selects RX4 yX4_place yX4_place, Cond.code yX4_place cX4_place 2 none, Cond.fieldLink RX4 18 "TaxEngine$Plan" "order" "[I", Cond.fieldLink RX4 28 "TaxEngine$Plan" "size" "I", Cond.static yX7_put, Cond.code yX7_put cX7_put 3 none, Cond.methodLink RX4 68 yX5_uses, Cond.instanceMethod yX5_uses, Cond.selects RX5 yX5_uses yX5_uses, Cond.code yX5_uses cX5_uses 4 (some .int), Cond.methodLink RX5 32 yX5_kind, Cond.static yX7_takesFirst, Cond.code yX7_takesFirst cX7_takesFirst 1 (some .boolean), Cond.methodLink RX5 40 yX5_first, Cond.static yX7_takesSecond, Cond.code yX7_takesSecond cX7_takesSecond 1 (some .boolean), Cond.methodLink RX5 49 yX5_second, Cond.instanceMethod yX5_second, Cond.selects RX5 yX5_second yX5_second]
def wsX4_placeCircle_r3 : List Cond := [Cond.code yX5_second cX5_second 2 (some .int), Cond.fieldLink RX5 18 "TaxEngine$Sheet" "seconds" "[I", Cond.methodLink RX4 93 yX4_direct, Cond.instanceMethod yX4_direct, Cond.selects RX4 yX4_direct yX4_direct, Cond.code yX4_direct cX4_direct 8 none, Cond.methodLink RX4 97 yX5_second]
def wsX4_placeCircle : List Cond := .code yX4_placeCircle cX4_placeCircle 6 (some .boolean) :: ((wsX4_placeCircle_r1 ++ (wsX4_placeCircle_r2 ++ wsX4_placeCircle_r3)) ++ wsX40 ++ wsX50)
def wsX4_make_r1 : List Cond := [Cond.fieldLink RX4 28 "TaxEngine$Plan" "size" "I", Cond.fieldLink RX4 32 "TaxEngine$Plan" "placed" "I", Cond.constant RX4 35 (65535), Cond.methodLink RX4 21 yX4_findReach, Cond.instanceMethod yX4_findReach, Cond.selects RX4 yX4_findReach yX4_findReach, Cond.initialized RX4, Cond.code yX4_findReach cX4_findReach 4 none, Cond.fieldLink RX4 9 "TaxEngine$Plan" "reach" "[I", Cond.methodLink RX4 68 yX5_uses, Cond.instanceMethod yX5_uses, Cond.selects RX5 yX5_uses yX5_uses, Cond.initialized RX5, Cond.code yX5_uses cX5_uses 4 (some .int), Cond.methodLink RX5 32 yX5_kind, Cond.instanceMethod yX5_kind, Cond.selects RX5 yX5_kind yX5_kind, Cond.code yX5_kind cX5_kind 2 (some .int), Cond.fieldLink RX5 9 "TaxEngine$Sheet" "kinds" "[I", Cond.static yX7_at, Cond.initialized RX7, Cond.code yX7_at cX7_at 2 (some .int), Cond.static yX7_takesFirst, Cond.code yX7_takesFirst cX7_takesFirst 1 (some .boolean)]
def wsX4_make_r2 : List Cond := [Cond.methodLink RX5 40 yX5_first, Cond.instanceMethod yX5_first, Cond.selects RX5 yX5_first yX5_first, Cond.code yX5_first cX5_first 2 (some .int), Cond.fieldLink RX5 15 "TaxEngine$Sheet" "firsts" "[I", Cond.static yX7_bit, Cond.code yX7_bit cX7_bit 1 (some .int), Cond.static yX7_takesSecond, Cond.code yX7_takesSecond cX7_takesSecond 1 (some .boolean), Cond.methodLink RX5 49 yX5_second, Cond.instanceMethod yX5_second, Cond.selects RX5 yX5_second yX5_second, Cond.code yX5_second cX5_second 2 (some .int), Cond.fieldLink RX5 18 "TaxEngine$Sheet" "seconds" "[I", Cond.static yX7_put, Cond.code yX7_put cX7_put 3 none, Cond.methodLink RX4 59 yX4_reach, Cond.instanceMethod yX4_reach, Cond.selects RX4 yX4_reach yX4_reach, Cond.code yX4_reach cX4_reach 2 (some .int), Cond.static yX7_has, Cond.code yX7_has cX7_has 2 (some .boolean), Cond.methodLink RX7 202 yX7_bit, Cond.methodLink RX4 25 yX4_findGroups]
def wsX4_make_r3 : List Cond := [Cond.instanceMethod yX4_findGroups, Cond.selects RX4 yX4_findGroups yX4_findGroups, Cond.code yX4_findGroups cX4_findGroups 4 none, Cond.fieldLink RX4 15 "TaxEngine$Plan" "groups" "[I", Cond.methodLink RX4 36 yX4_isReady, Cond.instanceMethod yX4_isReady, Cond.selects RX4 yX4_isReady yX4_isReady, Cond.code yX4_isReady cX4_isReady 2 (some .boolean), Cond.methodLink RX4 47 yX4_groupOf, Cond.instanceMethod yX4_groupOf, Cond.selects RX4 yX4_groupOf yX4_groupOf, Cond.code yX4_groupOf cX4_groupOf 2 (some .int), Cond.methodLink RX4 40 yX4_isCircular, Cond.instanceMethod yX4_isCircular, Cond.selects RX4 yX4_isCircular yX4_isCircular, Cond.code yX4_isCircular cX4_isCircular 2 (some .boolean), Cond.methodLink RX4 43 yX4_place, Cond.instanceMethod yX4_place, Cond.selects RX4 yX4_place yX4_place, Cond.code yX4_place cX4_place 2 none, Cond.fieldLink RX4 18 "TaxEngine$Plan" "order" "[I", Cond.methodLink RX4 51 yX4_placeCircle, Cond.instanceMethod yX4_placeCircle, Cond.selects RX4 yX4_placeCircle yX4_placeCircle]
def wsX4_make_r4 : List Cond := [Cond.code yX4_placeCircle cX4_placeCircle 6 (some .boolean), Cond.fieldLink RX4 87 "TaxEngine$Plan" "rising" "I", Cond.fieldLink RX4 90 "TaxEngine$Plan" "falling" "I", Cond.methodLink RX4 80 yX4_onlyLimit, Cond.instanceMethod yX4_onlyLimit, Cond.selects RX4 yX4_onlyLimit yX4_onlyLimit, Cond.code yX4_onlyLimit cX4_onlyLimit 5 (some .int), Cond.methodLink RX4 100 yX5_kind, Cond.methodLink RX4 84 yX5_first, Cond.methodLink RX4 93 yX4_direct, Cond.instanceMethod yX4_direct, Cond.selects RX4 yX4_direct yX4_direct, Cond.code yX4_direct cX4_direct 8 none, Cond.methodLink RX4 97 yX5_second]
def wsX4_make : List Cond := .code yX4_make cX4_make 4 (some .boolean) :: ((wsX4_make_r1 ++ (wsX4_make_r2 ++ (wsX4_make_r3 ++ wsX4_make_r4))) ++ wsX40 ++ wsX50)
def wsX4_lineAt : List Cond := .code yX4_lineAt cX4_lineAt 2 (some .int) :: ([.fieldLink RX4 18 "TaxEngine$Plan" "order" "[I", .static yX7_at, .initialized RX7, .code yX7_at cX7_at 2 (some .int)] ++ wsX40)
def wsX4_placeOf : List Cond := .code yX4_placeOf cX4_placeOf 3 (some .int) :: ([.methodLink RX4 65 yX4_lineAt, .instanceMethod yX4_lineAt, .selects RX4 yX4_lineAt yX4_lineAt, .initialized RX4, .code yX4_lineAt cX4_lineAt 2 (some .int), .fieldLink RX4 18 "TaxEngine$Plan" "order" "[I", .static yX7_at, .initialized RX7, .code yX7_at cX7_at 2 (some .int)] ++ wsX40)
def wsX5_init : List Cond := .code yX5_init cX5_init 1 none :: ([.methodLink RX5 3 objectInit, .instanceMethod objectInit, .code objectInit ⟨#[0xb1]⟩ 1 none, .arrayClass .int, .fieldLink RX5 9 "TaxEngine$Sheet" "kinds" "[I", .fieldLink RX5 15 "TaxEngine$Sheet" "firsts" "[I", .fieldLink RX5 18 "TaxEngine$Sheet" "seconds" "[I", .fieldLink RX5 21 "TaxEngine$Sheet" "answers" "[I"] ++ wsX50)
def wsX5_set : List Cond := .code yX5_set cX5_set 5 none :: ([.fieldLink RX5 9 "TaxEngine$Sheet" "kinds" "[I", .fieldLink RX5 15 "TaxEngine$Sheet" "firsts" "[I", .fieldLink RX5 18 "TaxEngine$Sheet" "seconds" "[I", .static yX7_put, .initialized RX7, .code yX7_put cX7_put 3 none] ++ wsX50)
def wsX5_given : List Cond := .code yX5_given cX5_given 2 (some .int) :: ([.fieldLink RX5 21 "TaxEngine$Sheet" "answers" "[I", .static yX7_at, .initialized RX7, .code yX7_at cX7_at 2 (some .int)] ++ wsX50)
def wsX5_give : List Cond := .code yX5_give cX5_give 3 none :: ([.fieldLink RX5 21 "TaxEngine$Sheet" "answers" "[I", .static yX7_put, .initialized RX7, .code yX7_put cX7_put 3 none] ++ wsX50)
def wsX6_init : List Cond := .code yX6_init cX6_init 5 none :: ([.methodLink RX6 3 objectInit, .instanceMethod objectInit, .code objectInit ⟨#[0xb1]⟩ 1 none, .arrayClass .int, .fieldLink RX6 9 "TaxEngine$Values" "numbers" "[I", .fieldLink RX6 15 "TaxEngine$Values" "raised" "I", .fieldLink RX6 19 "TaxEngine$Values" "sheet" "LTaxEngine$Sheet;", .fieldLink RX6 23 "TaxEngine$Values" "plan" "LTaxEngine$Plan;", .fieldLink RX6 27 "TaxEngine$Values" "brackets" "LTaxEngine$Brackets;", .fieldLink RX6 31 "TaxEngine$Values" "amounts" "LTaxEngine$Amounts;"] ++ wsX60)
def wsJ6_bitCount_0f7a4 : List Cond := .code yJ6_bitCount_0f7a4 cJ6_bitCount_0f7a4 1 (some .int) :: ([.constant RJ6 265 (1431655765), .constant RJ6 266 (858993459), .constant RJ6 267 (252645135)])
def wsX6_plain_r1 : List Cond := [Cond.fieldLink RX6 19 "TaxEngine$Values" "sheet" "LTaxEngine$Sheet;", Cond.constant RX6 85 (1000000000), Cond.methodLink RX6 86 Lib.Math.min.name, Cond.static Lib.Math.min.name, Cond.initialized "java/lang/Math", Cond.code Lib.Math.min.name Lib.Math.min.code 2 (some .int), Cond.methodLink RX6 92 Lib.Math.max.name, Cond.static Lib.Math.max.name, Cond.code Lib.Math.max.name Lib.Math.max.code 2 (some .int), Cond.fieldLink RX6 27 "TaxEngine$Values" "brackets" "LTaxEngine$Brackets;", Cond.fieldLink RX6 31 "TaxEngine$Values" "amounts" "LTaxEngine$Amounts;", Cond.fieldLink RX6 15 "TaxEngine$Values" "raised" "I", Cond.methodLink RX6 72 yX5_first, Cond.instanceMethod yX5_first, Cond.selects RX5 yX5_first yX5_first, Cond.initialized RX5, Cond.code yX5_first cX5_first 2 (some .int), Cond.fieldLink RX5 15 "TaxEngine$Sheet" "firsts" "[I", Cond.static yX7_at, Cond.initialized RX7, Cond.code yX7_at cX7_at 2 (some .int), Cond.methodLink RX6 75 yX6_of, Cond.instanceMethod yX6_of, Cond.selects RX6 yX6_of yX6_of]
def wsX6_plain_r2 : List Cond := [Cond.initialized RX6, Cond.code yX6_of cX6_of 2 (some .int), Cond.fieldLink RX6 9 "TaxEngine$Values" "numbers" "[I", Cond.methodLink RX6 82 yX5_second, Cond.instanceMethod yX5_second, Cond.selects RX5 yX5_second yX5_second, Cond.code yX5_second cX5_second 2 (some .int), Cond.fieldLink RX5 18 "TaxEngine$Sheet" "seconds" "[I", Cond.methodLink RX6 45 yX5_kind, Cond.instanceMethod yX5_kind, Cond.selects RX5 yX5_kind yX5_kind, Cond.code yX5_kind cX5_kind 2 (some .int), Cond.fieldLink RX5 9 "TaxEngine$Sheet" "kinds" "[I", Cond.static yX7_thousandths, Cond.code yX7_thousandths cX7_thousandths 2 (some .int), Cond.constantLong RX7 205 (1000), Cond.methodLink RX6 98 yX1_tax, Cond.instanceMethod yX1_tax, Cond.selects RX1 yX1_tax yX1_tax, Cond.initialized RX1, Cond.code yX1_tax cX1_tax 6 (some .int), Cond.fieldLink RX1 18 "TaxEngine$Brackets" "count" "I", Cond.fieldLink RX1 9 "TaxEngine$Brackets" "thresholds" "[I", Cond.methodLink RX1 38 Lib.Math.min.name]
def wsX6_plain_r3 : List Cond := [Cond.methodLink RX1 44 Lib.Math.max.name, Cond.fieldLink RX1 15 "TaxEngine$Brackets" "rates" "[I", Cond.methodLink RX6 103 yX0_total, Cond.instanceMethod yX0_total, Cond.selects RX0 yX0_total yX0_total, Cond.initialized RX0, Cond.code yX0_total cX0_total 3 (some .int), Cond.fieldLink RX0 22 "TaxEngine$Amounts" "count" "I", Cond.methodLink RX0 29 yX0_leftAt, Cond.instanceMethod yX0_leftAt, Cond.selects RX0 yX0_leftAt yX0_leftAt, Cond.code yX0_leftAt cX0_leftAt 2 (some .int), Cond.fieldLink RX0 9 "TaxEngine$Amounts" "lefts" "[I", Cond.methodLink RX6 109 yX5_given, Cond.instanceMethod yX5_given, Cond.selects RX5 yX5_given yX5_given, Cond.code yX5_given cX5_given 2 (some .int), Cond.fieldLink RX5 21 "TaxEngine$Sheet" "answers" "[I"]
def wsX6_plain : List Cond := .code yX6_plain cX6_plain 4 (some .int) :: ((wsX6_plain_r1 ++ (wsX6_plain_r2 ++ wsX6_plain_r3)) ++ wsX60 ++ wsX50 ++ wsX10 ++ wsX00)
def wsX6_suppose_r1 : List Cond := [Cond.fieldLink RX6 23 "TaxEngine$Values" "plan" "LTaxEngine$Plan;", Cond.fieldLink RX6 9 "TaxEngine$Values" "numbers" "[I", Cond.methodLink RX6 39 yX4_lineAt, Cond.instanceMethod yX4_lineAt, Cond.selects RX4 yX4_lineAt yX4_lineAt, Cond.initialized RX4, Cond.code yX4_lineAt cX4_lineAt 2 (some .int), Cond.fieldLink RX4 18 "TaxEngine$Plan" "order" "[I", Cond.static yX7_at, Cond.initialized RX7, Cond.code yX7_at cX7_at 2 (some .int), Cond.static yX7_put, Cond.code yX7_put cX7_put 3 none, Cond.methodLink RX6 64 yX4_groupOf, Cond.instanceMethod yX4_groupOf, Cond.selects RX4 yX4_groupOf yX4_groupOf, Cond.code yX4_groupOf cX4_groupOf 2 (some .int), Cond.fieldLink RX4 15 "TaxEngine$Plan" "groups" "[I", Cond.methodLink RX6 67 yJ6_bitCount_0f7a4, Cond.static yJ6_bitCount_0f7a4, Cond.initialized RJ6, Cond.code yJ6_bitCount_0f7a4 cJ6_bitCount_0f7a4 1 (some .int), Cond.constant RJ6 265 (1431655765), Cond.constant RJ6 266 (858993459)]
def wsX6_suppose_r2 : List Cond := [Cond.constant RJ6 267 (252645135), Cond.methodLink RX6 57 yX6_plain, Cond.instanceMethod yX6_plain, Cond.selects RX6 yX6_plain yX6_plain, Cond.initialized RX6, Cond.code yX6_plain cX6_plain 4 (some .int), Cond.fieldLink RX6 19 "TaxEngine$Values" "sheet" "LTaxEngine$Sheet;", Cond.constant RX6 85 (1000000000), Cond.methodLink RX6 86 Lib.Math.min.name, Cond.static Lib.Math.min.name, Cond.initialized "java/lang/Math", Cond.code Lib.Math.min.name Lib.Math.min.code 2 (some .int), Cond.methodLink RX6 92 Lib.Math.max.name, Cond.static Lib.Math.max.name, Cond.code Lib.Math.max.name Lib.Math.max.code 2 (some .int), Cond.fieldLink RX6 27 "TaxEngine$Values" "brackets" "LTaxEngine$Brackets;", Cond.fieldLink RX6 31 "TaxEngine$Values" "amounts" "LTaxEngine$Amounts;", Cond.fieldLink RX6 15 "TaxEngine$Values" "raised" "I", Cond.methodLink RX6 72 yX5_first, Cond.instanceMethod yX5_first, Cond.selects RX5 yX5_first yX5_first, Cond.initialized RX5, Cond.code yX5_first cX5_first 2 (some .int), Cond.fieldLink RX5 15 "TaxEngine$Sheet" "firsts" "[I"]
def wsX6_suppose_r3 : List Cond := [Cond.methodLink RX6 75 yX6_of, Cond.instanceMethod yX6_of, Cond.selects RX6 yX6_of yX6_of, Cond.code yX6_of cX6_of 2 (some .int), Cond.methodLink RX6 82 yX5_second, Cond.instanceMethod yX5_second, Cond.selects RX5 yX5_second yX5_second, Cond.code yX5_second cX5_second 2 (some .int), Cond.fieldLink RX5 18 "TaxEngine$Sheet" "seconds" "[I", Cond.methodLink RX6 45 yX5_kind, Cond.instanceMethod yX5_kind, Cond.selects RX5 yX5_kind yX5_kind, Cond.code yX5_kind cX5_kind 2 (some .int), Cond.fieldLink RX5 9 "TaxEngine$Sheet" "kinds" "[I", Cond.static yX7_thousandths, Cond.code yX7_thousandths cX7_thousandths 2 (some .int), Cond.constantLong RX7 205 (1000), Cond.methodLink RX6 98 yX1_tax, Cond.instanceMethod yX1_tax, Cond.selects RX1 yX1_tax yX1_tax, Cond.initialized RX1, Cond.code yX1_tax cX1_tax 6 (some .int), Cond.fieldLink RX1 18 "TaxEngine$Brackets" "count" "I", Cond.fieldLink RX1 9 "TaxEngine$Brackets" "thresholds" "[I"]
def wsX6_suppose_r4 : List Cond := [Cond.methodLink RX1 38 Lib.Math.min.name, Cond.methodLink RX1 44 Lib.Math.max.name, Cond.fieldLink RX1 15 "TaxEngine$Brackets" "rates" "[I", Cond.methodLink RX6 103 yX0_total, Cond.instanceMethod yX0_total, Cond.selects RX0 yX0_total yX0_total, Cond.initialized RX0, Cond.code yX0_total cX0_total 3 (some .int), Cond.fieldLink RX0 22 "TaxEngine$Amounts" "count" "I", Cond.methodLink RX0 29 yX0_leftAt, Cond.instanceMethod yX0_leftAt, Cond.selects RX0 yX0_leftAt yX0_leftAt, Cond.code yX0_leftAt cX0_leftAt 2 (some .int), Cond.fieldLink RX0 9 "TaxEngine$Amounts" "lefts" "[I", Cond.methodLink RX6 109 yX5_given, Cond.instanceMethod yX5_given, Cond.selects RX5 yX5_given yX5_given, Cond.code yX5_given cX5_given 2 (some .int), Cond.fieldLink RX5 21 "TaxEngine$Sheet" "answers" "[I"]
def wsX6_suppose : List Cond := .code yX6_suppose cX6_suppose 7 none :: ((wsX6_suppose_r1 ++ (wsX6_suppose_r2 ++ (wsX6_suppose_r3 ++ wsX6_suppose_r4))) ++ wsX60 ++ wsX40 ++ wsX50 ++ wsX10 ++ wsX00)
def wsX6_greatest_r1 : List Cond := [Cond.fieldLink RX6 23 "TaxEngine$Values" "plan" "LTaxEngine$Plan;", Cond.fieldLink RX6 19 "TaxEngine$Values" "sheet" "LTaxEngine$Sheet;", Cond.methodLink RX6 39 yX4_lineAt, Cond.instanceMethod yX4_lineAt, Cond.selects RX4 yX4_lineAt yX4_lineAt, Cond.initialized RX4, Cond.code yX4_lineAt cX4_lineAt 2 (some .int), Cond.fieldLink RX4 18 "TaxEngine$Plan" "order" "[I", Cond.static yX7_at, Cond.initialized RX7, Cond.code yX7_at cX7_at 2 (some .int), Cond.methodLink RX6 72 yX5_first, Cond.instanceMethod yX5_first, Cond.selects RX5 yX5_first yX5_first, Cond.initialized RX5, Cond.code yX5_first cX5_first 2 (some .int), Cond.fieldLink RX5 15 "TaxEngine$Sheet" "firsts" "[I", Cond.methodLink RX6 75 yX6_of, Cond.instanceMethod yX6_of, Cond.selects RX6 yX6_of yX6_of, Cond.initialized RX6, Cond.code yX6_of cX6_of 2 (some .int), Cond.fieldLink RX6 9 "TaxEngine$Values" "numbers" "[I", Cond.methodLink RX6 78 yX6_suppose]
def wsX6_greatest_r2 : List Cond := [Cond.instanceMethod yX6_suppose, Cond.selects RX6 yX6_suppose yX6_suppose, Cond.code yX6_suppose cX6_suppose 7 none, Cond.static yX7_put, Cond.code yX7_put cX7_put 3 none, Cond.methodLink RX6 64 yX4_groupOf, Cond.instanceMethod yX4_groupOf, Cond.selects RX4 yX4_groupOf yX4_groupOf, Cond.code yX4_groupOf cX4_groupOf 2 (some .int), Cond.fieldLink RX4 15 "TaxEngine$Plan" "groups" "[I", Cond.methodLink RX6 67 yJ6_bitCount_0f7a4, Cond.static yJ6_bitCount_0f7a4, Cond.initialized RJ6, Cond.code yJ6_bitCount_0f7a4 cJ6_bitCount_0f7a4 1 (some .int), Cond.constant RJ6 265 (1431655765), Cond.constant RJ6 266 (858993459), Cond.constant RJ6 267 (252645135), Cond.methodLink RX6 57 yX6_plain, Cond.instanceMethod yX6_plain, Cond.selects RX6 yX6_plain yX6_plain, Cond.code yX6_plain cX6_plain 4 (some .int), Cond.constant RX6 85 (1000000000), Cond.methodLink RX6 86 Lib.Math.min.name, Cond.static Lib.Math.min.name]
def wsX6_greatest_r3 : List Cond := [Cond.initialized "java/lang/Math", Cond.code Lib.Math.min.name Lib.Math.min.code 2 (some .int), Cond.methodLink RX6 92 Lib.Math.max.name, Cond.static Lib.Math.max.name, Cond.code Lib.Math.max.name Lib.Math.max.code 2 (some .int), Cond.fieldLink RX6 27 "TaxEngine$Values" "brackets" "LTaxEngine$Brackets;", Cond.fieldLink RX6 31 "TaxEngine$Values" "amounts" "LTaxEngine$Amounts;", Cond.fieldLink RX6 15 "TaxEngine$Values" "raised" "I", Cond.methodLink RX6 82 yX5_second, Cond.instanceMethod yX5_second, Cond.selects RX5 yX5_second yX5_second, Cond.code yX5_second cX5_second 2 (some .int), Cond.fieldLink RX5 18 "TaxEngine$Sheet" "seconds" "[I", Cond.methodLink RX6 45 yX5_kind, Cond.instanceMethod yX5_kind, Cond.selects RX5 yX5_kind yX5_kind, Cond.code yX5_kind cX5_kind 2 (some .int), Cond.fieldLink RX5 9 "TaxEngine$Sheet" "kinds" "[I", Cond.static yX7_thousandths, Cond.code yX7_thousandths cX7_thousandths 2 (some .int), Cond.constantLong RX7 205 (1000), Cond.methodLink RX6 98 yX1_tax, Cond.instanceMethod yX1_tax, Cond.selects RX1 yX1_tax yX1_tax]
def wsX6_greatest_r4 : List Cond := [Cond.initialized RX1, Cond.code yX1_tax cX1_tax 6 (some .int), Cond.fieldLink RX1 18 "TaxEngine$Brackets" "count" "I", Cond.fieldLink RX1 9 "TaxEngine$Brackets" "thresholds" "[I", Cond.methodLink RX1 38 Lib.Math.min.name, Cond.methodLink RX1 44 Lib.Math.max.name, Cond.fieldLink RX1 15 "TaxEngine$Brackets" "rates" "[I", Cond.methodLink RX6 103 yX0_total, Cond.instanceMethod yX0_total, Cond.selects RX0 yX0_total yX0_total, Cond.initialized RX0, Cond.code yX0_total cX0_total 3 (some .int), Cond.fieldLink RX0 22 "TaxEngine$Amounts" "count" "I", Cond.methodLink RX0 29 yX0_leftAt, Cond.instanceMethod yX0_leftAt, Cond.selects RX0 yX0_leftAt yX0_leftAt, Cond.code yX0_leftAt cX0_leftAt 2 (some .int), Cond.fieldLink RX0 9 "TaxEngine$Amounts" "lefts" "[I", Cond.methodLink RX6 109 yX5_given, Cond.instanceMethod yX5_given, Cond.selects RX5 yX5_given yX5_given, Cond.code yX5_given cX5_given 2 (some .int), Cond.fieldLink RX5 21 "TaxEngine$Sheet" "answers" "[I"]
def wsX6_greatest : List Cond := .code yX6_greatest cX6_greatest 7 (some .int) :: ((wsX6_greatest_r1 ++ (wsX6_greatest_r2 ++ (wsX6_greatest_r3 ++ wsX6_greatest_r4))) ++ wsX60 ++ wsX40 ++ wsX50 ++ wsX10 ++ wsX00)
def wsX6_workOut_r1 : List Cond := [Cond.fieldLink RX6 15 "TaxEngine$Values" "raised" "I", Cond.fieldLink RX6 23 "TaxEngine$Values" "plan" "LTaxEngine$Plan;", Cond.fieldLink RX6 19 "TaxEngine$Values" "sheet" "LTaxEngine$Sheet;", Cond.fieldLink RX6 9 "TaxEngine$Values" "numbers" "[I", Cond.methodLink RX6 39 yX4_lineAt, Cond.instanceMethod yX4_lineAt, Cond.selects RX4 yX4_lineAt yX4_lineAt, Cond.initialized RX4, Cond.code yX4_lineAt cX4_lineAt 2 (some .int), Cond.fieldLink RX4 18 "TaxEngine$Plan" "order" "[I", Cond.static yX7_at, Cond.initialized RX7, Cond.code yX7_at cX7_at 2 (some .int), Cond.methodLink RX6 45 yX5_kind, Cond.instanceMethod yX5_kind, Cond.selects RX5 yX5_kind yX5_kind, Cond.initialized RX5, Cond.code yX5_kind cX5_kind 2 (some .int), Cond.fieldLink RX5 9 "TaxEngine$Sheet" "kinds" "[I", Cond.methodLink RX6 50 yX4_isCircular, Cond.instanceMethod yX4_isCircular, Cond.selects RX4 yX4_isCircular yX4_isCircular, Cond.code yX4_isCircular cX4_isCircular 2 (some .boolean), Cond.methodLink RX4 59 yX4_reach]
def wsX6_workOut_r2 : List Cond := [Cond.instanceMethod yX4_reach, Cond.selects RX4 yX4_reach yX4_reach, Cond.code yX4_reach cX4_reach 2 (some .int), Cond.fieldLink RX4 9 "TaxEngine$Plan" "reach" "[I", Cond.static yX7_has, Cond.code yX7_has cX7_has 2 (some .boolean), Cond.methodLink RX7 202 yX7_bit, Cond.static yX7_bit, Cond.code yX7_bit cX7_bit 1 (some .int), Cond.methodLink RX6 54 yX6_greatest, Cond.instanceMethod yX6_greatest, Cond.selects RX6 yX6_greatest yX6_greatest, Cond.initialized RX6, Cond.code yX6_greatest cX6_greatest 7 (some .int), Cond.methodLink RX6 72 yX5_first, Cond.instanceMethod yX5_first, Cond.selects RX5 yX5_first yX5_first, Cond.code yX5_first cX5_first 2 (some .int), Cond.fieldLink RX5 15 "TaxEngine$Sheet" "firsts" "[I", Cond.methodLink RX6 75 yX6_of, Cond.instanceMethod yX6_of, Cond.selects RX6 yX6_of yX6_of, Cond.code yX6_of cX6_of 2 (some .int), Cond.methodLink RX6 78 yX6_suppose]
def wsX6_workOut_r3 : List Cond := [Cond.instanceMethod yX6_suppose, Cond.selects RX6 yX6_suppose yX6_suppose, Cond.code yX6_suppose cX6_suppose 7 none, Cond.static yX7_put, Cond.code yX7_put cX7_put 3 none, Cond.methodLink RX6 64 yX4_groupOf, Cond.instanceMethod yX4_groupOf, Cond.selects RX4 yX4_groupOf yX4_groupOf, Cond.code yX4_groupOf cX4_groupOf 2 (some .int), Cond.fieldLink RX4 15 "TaxEngine$Plan" "groups" "[I", Cond.methodLink RX6 67 yJ6_bitCount_0f7a4, Cond.static yJ6_bitCount_0f7a4, Cond.initialized RJ6, Cond.code yJ6_bitCount_0f7a4 cJ6_bitCount_0f7a4 1 (some .int), Cond.constant RJ6 265 (1431655765), Cond.constant RJ6 266 (858993459), Cond.constant RJ6 267 (252645135), Cond.methodLink RX6 57 yX6_plain, Cond.instanceMethod yX6_plain, Cond.selects RX6 yX6_plain yX6_plain, Cond.code yX6_plain cX6_plain 4 (some .int), Cond.constant RX6 85 (1000000000), Cond.methodLink RX6 86 Lib.Math.min.name, Cond.static Lib.Math.min.name]
def wsX6_workOut_r4 : List Cond := [Cond.initialized "java/lang/Math", Cond.code Lib.Math.min.name Lib.Math.min.code 2 (some .int), Cond.methodLink RX6 92 Lib.Math.max.name, Cond.static Lib.Math.max.name, Cond.code Lib.Math.max.name Lib.Math.max.code 2 (some .int), Cond.fieldLink RX6 27 "TaxEngine$Values" "brackets" "LTaxEngine$Brackets;", Cond.fieldLink RX6 31 "TaxEngine$Values" "amounts" "LTaxEngine$Amounts;", Cond.methodLink RX6 82 yX5_second, Cond.instanceMethod yX5_second, Cond.selects RX5 yX5_second yX5_second, Cond.code yX5_second cX5_second 2 (some .int), Cond.fieldLink RX5 18 "TaxEngine$Sheet" "seconds" "[I", Cond.static yX7_thousandths, Cond.code yX7_thousandths cX7_thousandths 2 (some .int), Cond.constantLong RX7 205 (1000), Cond.methodLink RX6 98 yX1_tax, Cond.instanceMethod yX1_tax, Cond.selects RX1 yX1_tax yX1_tax, Cond.initialized RX1, Cond.code yX1_tax cX1_tax 6 (some .int), Cond.fieldLink RX1 18 "TaxEngine$Brackets" "count" "I", Cond.fieldLink RX1 9 "TaxEngine$Brackets" "thresholds" "[I", Cond.methodLink RX1 38 Lib.Math.min.name, Cond.methodLink RX1 44 Lib.Math.max.name]
def wsX6_workOut_r5 : List Cond := [Cond.fieldLink RX1 15 "TaxEngine$Brackets" "rates" "[I", Cond.methodLink RX6 103 yX0_total, Cond.instanceMethod yX0_total, Cond.selects RX0 yX0_total yX0_total, Cond.initialized RX0, Cond.code yX0_total cX0_total 3 (some .int), Cond.fieldLink RX0 22 "TaxEngine$Amounts" "count" "I", Cond.methodLink RX0 29 yX0_leftAt, Cond.instanceMethod yX0_leftAt, Cond.selects RX0 yX0_leftAt yX0_leftAt, Cond.code yX0_leftAt cX0_leftAt 2 (some .int), Cond.fieldLink RX0 9 "TaxEngine$Amounts" "lefts" "[I", Cond.methodLink RX6 109 yX5_given, Cond.instanceMethod yX5_given, Cond.selects RX5 yX5_given yX5_given, Cond.code yX5_given cX5_given 2 (some .int), Cond.fieldLink RX5 21 "TaxEngine$Sheet" "answers" "[I"]
def wsX6_workOut : List Cond := .code yX6_workOut cX6_workOut 5 none :: ((wsX6_workOut_r1 ++ (wsX6_workOut_r2 ++ (wsX6_workOut_r3 ++ (wsX6_workOut_r4 ++ wsX6_workOut_r5)))) ++ wsX60 ++ wsX40 ++ wsX50 ++ wsX10 ++ wsX00)
def wsX7_init_r1 : List Cond := [Cond.methodLink RX7 1 objectInit, Cond.instanceMethod objectInit, Cond.code objectInit ⟨#[0xb1]⟩ 1 none, Cond.classLink RX7 7 RX5, Cond.instantiable RX5 4, Cond.initialized RX5, Cond.fieldLink RX7 10 "TaxEngine" "sheet" "LTaxEngine$Sheet;", Cond.classLink RX7 16 RX4, Cond.instantiable RX4 7, Cond.initialized RX4, Cond.fieldLink RX7 19 "TaxEngine" "plan" "LTaxEngine$Plan;", Cond.classLink RX7 23 RX1, Cond.instantiable RX1 3, Cond.initialized RX1, Cond.fieldLink RX7 26 "TaxEngine" "brackets" "LTaxEngine$Brackets;", Cond.classLink RX7 30 RX0, Cond.instantiable RX0 4, Cond.initialized RX0, Cond.fieldLink RX7 33 "TaxEngine" "amounts" "LTaxEngine$Amounts;", Cond.classLink RX7 37 RX2, Cond.instantiable RX2 5, Cond.initialized RX2, Cond.fieldLink RX7 40 "TaxEngine" "credits" "LTaxEngine$Credits;", Cond.classLink RX7 44 RX6]
def wsX7_init_r2 : List Cond := [Cond.instantiable RX6 6, Cond.initialized RX6, Cond.fieldLink RX7 49 "TaxEngine" "values" "LTaxEngine$Values;", Cond.fieldLink RX7 53 "TaxEngine" "raisedValues" "LTaxEngine$Values;", Cond.classLink RX7 56 RX3, Cond.instantiable RX3 3, Cond.initialized RX3, Cond.fieldLink RX7 59 "TaxEngine" "explanation" "LTaxEngine$Explanation;", Cond.instanceMethod yX5_init, Cond.code yX5_init cX5_init 1 none, Cond.methodLink RX5 3 objectInit, Cond.arrayClass .int, Cond.fieldLink RX5 9 "TaxEngine$Sheet" "kinds" "[I", Cond.fieldLink RX5 15 "TaxEngine$Sheet" "firsts" "[I", Cond.fieldLink RX5 18 "TaxEngine$Sheet" "seconds" "[I", Cond.fieldLink RX5 21 "TaxEngine$Sheet" "answers" "[I", Cond.instanceMethod yX4_init, Cond.code yX4_init cX4_init 1 none, Cond.methodLink RX4 3 objectInit, Cond.fieldLink RX4 9 "TaxEngine$Plan" "reach" "[I", Cond.fieldLink RX4 15 "TaxEngine$Plan" "groups" "[I", Cond.fieldLink RX4 18 "TaxEngine$Plan" "order" "[I", Cond.instanceMethod yX1_init, Cond.code yX1_init cX1_init 1 none]
def wsX7_init_r3 : List Cond := [Cond.methodLink RX1 3 objectInit, Cond.fieldLink RX1 9 "TaxEngine$Brackets" "thresholds" "[I", Cond.fieldLink RX1 15 "TaxEngine$Brackets" "rates" "[I", Cond.instanceMethod yX0_init, Cond.code yX0_init cX0_init 1 none, Cond.methodLink RX0 3 objectInit, Cond.fieldLink RX0 9 "TaxEngine$Amounts" "lefts" "[I", Cond.fieldLink RX0 15 "TaxEngine$Amounts" "lasts" "[I", Cond.instanceMethod yX2_init, Cond.code yX2_init cX2_init 1 none, Cond.methodLink RX2 3 objectInit, Cond.fieldLink RX2 9 "TaxEngine$Credits" "sizes" "[I", Cond.fieldLink RX2 15 "TaxEngine$Credits" "worths" "[I", Cond.fieldLink RX2 18 "TaxEngine$Credits" "order" "[I", Cond.fieldLink RX2 21 "TaxEngine$Credits" "best" "[I", Cond.methodLink RX7 46 yX6_init, Cond.instanceMethod yX6_init, Cond.code yX6_init cX6_init 5 none, Cond.methodLink RX6 3 objectInit, Cond.fieldLink RX6 9 "TaxEngine$Values" "numbers" "[I", Cond.fieldLink RX6 15 "TaxEngine$Values" "raised" "I", Cond.fieldLink RX6 19 "TaxEngine$Values" "sheet" "LTaxEngine$Sheet;", Cond.fieldLink RX6 23 "TaxEngine$Values" "plan" "LTaxEngine$Plan;", Cond.fieldLink RX6 27 "TaxEngine$Values" "brackets" "LTaxEngine$Brackets;"]
def wsX7_init_r4 : List Cond := [Cond.fieldLink RX6 31 "TaxEngine$Values" "amounts" "LTaxEngine$Amounts;", Cond.instanceMethod yX3_init, Cond.code yX3_init cX3_init 1 none, Cond.methodLink RX3 3 objectInit, Cond.fieldLink RX3 9 "TaxEngine$Explanation" "row" "[I", Cond.methodLink RX7 63 yX4_make, Cond.instanceMethod yX4_make, Cond.selects RX4 yX4_make yX4_make, Cond.code yX4_make cX4_make 4 (some .boolean), Cond.fieldLink RX4 28 "TaxEngine$Plan" "size" "I", Cond.fieldLink RX4 32 "TaxEngine$Plan" "placed" "I", Cond.constant RX4 35 (65535), Cond.methodLink RX4 21 yX4_findReach, Cond.instanceMethod yX4_findReach, Cond.selects RX4 yX4_findReach yX4_findReach, Cond.code yX4_findReach cX4_findReach 4 none, Cond.methodLink RX4 68 yX5_uses, Cond.instanceMethod yX5_uses, Cond.selects RX5 yX5_uses yX5_uses, Cond.code yX5_uses cX5_uses 4 (some .int), Cond.methodLink RX5 32 yX5_kind, Cond.instanceMethod yX5_kind, Cond.selects RX5 yX5_kind yX5_kind, Cond.code yX5_kind cX5_kind 2 (some .int)]
def wsX7_init_r5 : List Cond := [Cond.static yX7_at, Cond.initialized RX7, Cond.code yX7_at cX7_at 2 (some .int), Cond.static yX7_takesFirst, Cond.code yX7_takesFirst cX7_takesFirst 1 (some .boolean), Cond.methodLink RX5 40 yX5_first, Cond.instanceMethod yX5_first, Cond.selects RX5 yX5_first yX5_first, Cond.code yX5_first cX5_first 2 (some .int), Cond.static yX7_bit, Cond.code yX7_bit cX7_bit 1 (some .int), Cond.static yX7_takesSecond, Cond.code yX7_takesSecond cX7_takesSecond 1 (some .boolean), Cond.methodLink RX5 49 yX5_second, Cond.instanceMethod yX5_second, Cond.selects RX5 yX5_second yX5_second, Cond.code yX5_second cX5_second 2 (some .int), Cond.static yX7_put, Cond.code yX7_put cX7_put 3 none, Cond.methodLink RX4 59 yX4_reach, Cond.instanceMethod yX4_reach, Cond.selects RX4 yX4_reach yX4_reach, Cond.code yX4_reach cX4_reach 2 (some .int), Cond.static yX7_has]
def wsX7_init_r6 : List Cond := [Cond.code yX7_has cX7_has 2 (some .boolean), Cond.methodLink RX7 202 yX7_bit, Cond.methodLink RX4 25 yX4_findGroups, Cond.instanceMethod yX4_findGroups, Cond.selects RX4 yX4_findGroups yX4_findGroups, Cond.code yX4_findGroups cX4_findGroups 4 none, Cond.methodLink RX4 36 yX4_isReady, Cond.instanceMethod yX4_isReady, Cond.selects RX4 yX4_isReady yX4_isReady, Cond.code yX4_isReady cX4_isReady 2 (some .boolean), Cond.methodLink RX4 47 yX4_groupOf, Cond.instanceMethod yX4_groupOf, Cond.selects RX4 yX4_groupOf yX4_groupOf, Cond.code yX4_groupOf cX4_groupOf 2 (some .int), Cond.methodLink RX4 40 yX4_isCircular, Cond.instanceMethod yX4_isCircular, Cond.selects RX4 yX4_isCircular yX4_isCircular, Cond.code yX4_isCircular cX4_isCircular 2 (some .boolean), Cond.methodLink RX4 43 yX4_place, Cond.instanceMethod yX4_place, Cond.selects RX4 yX4_place yX4_place, Cond.code yX4_place cX4_place 2 none, Cond.methodLink RX4 51 yX4_placeCircle, Cond.instanceMethod yX4_placeCircle]
def wsX7_init_r7 : List Cond := [Cond.selects RX4 yX4_placeCircle yX4_placeCircle, Cond.code yX4_placeCircle cX4_placeCircle 6 (some .boolean), Cond.fieldLink RX4 87 "TaxEngine$Plan" "rising" "I", Cond.fieldLink RX4 90 "TaxEngine$Plan" "falling" "I", Cond.methodLink RX4 80 yX4_onlyLimit, Cond.instanceMethod yX4_onlyLimit, Cond.selects RX4 yX4_onlyLimit yX4_onlyLimit, Cond.code yX4_onlyLimit cX4_onlyLimit 5 (some .int), Cond.methodLink RX4 100 yX5_kind, Cond.methodLink RX4 84 yX5_first, Cond.methodLink RX4 93 yX4_direct, Cond.instanceMethod yX4_direct, Cond.selects RX4 yX4_direct yX4_direct, Cond.code yX4_direct cX4_direct 8 none, Cond.methodLink RX4 97 yX5_second]
def wsX7_init : List Cond := .code yX7_init cX7_init 1 none :: ((wsX7_init_r1 ++ (wsX7_init_r2 ++ (wsX7_init_r3 ++ (wsX7_init_r4 ++ (wsX7_init_r5 ++ (wsX7_init_r6 ++ wsX7_init_r7)))))) ++ wsX50 ++ wsX70 ++ wsX40 ++ wsX10 ++ wsX00 ++ wsX20 ++ wsX60 ++ wsX30)
def wsX7_isWithin : List Cond := .code yX7_isWithin cX7_isWithin 3 (some .boolean) :: ([])
def wsX7_checkPlace : List Cond := .code yX7_checkPlace cX7_checkPlace 1 none :: ([.classLink RX7 196 "java/lang/IndexOutOfBoundsException", .initialized "java/lang/IndexOutOfBoundsException"] ++ (vx_at0 RX7 198 "java/lang/IndexOutOfBoundsException" ["java/lang/RuntimeException", "java/lang/Exception"]).filter goodWord)
def wsX7_checkLine : List Cond := .code yX7_checkLine cX7_checkLine 1 none :: ([.methodLink RX7 71 yX7_isWithin, .static yX7_isWithin, .initialized RX7, .code yX7_isWithin cX7_isWithin 3 (some .boolean), .methodLink RX7 134 yX7_checkPlace, .static yX7_checkPlace, .code yX7_checkPlace cX7_checkPlace 1 none, .classLink RX7 196 "java/lang/IndexOutOfBoundsException", .initialized "java/lang/IndexOutOfBoundsException"] ++ (vx_at0 RX7 198 "java/lang/IndexOutOfBoundsException" ["java/lang/RuntimeException", "java/lang/Exception"]).filter goodWord)
def wsX7_checkArgument : List Cond := .code yX7_checkArgument cX7_checkArgument 1 none :: ([.classLink RX7 199 "java/lang/IllegalArgumentException", .initialized "java/lang/IllegalArgumentException"] ++ (vx_at0 RX7 201 "java/lang/IllegalArgumentException" ["java/lang/RuntimeException", "java/lang/Exception"]).filter goodWord)
def wsX7_define_r1 : List Cond := [Cond.classLink RX7 100 "java/lang/IllegalStateException", Cond.initialized "java/lang/IllegalStateException", Cond.fieldLink RX7 10 "TaxEngine" "sheet" "LTaxEngine$Sheet;", Cond.fieldLink RX7 19 "TaxEngine" "plan" "LTaxEngine$Plan;", Cond.methodLink RX7 67 yX7_checkLine, Cond.static yX7_checkLine, Cond.initialized RX7, Cond.code yX7_checkLine cX7_checkLine 1 none, Cond.methodLink RX7 71 yX7_isWithin, Cond.static yX7_isWithin, Cond.code yX7_isWithin cX7_isWithin 3 (some .boolean), Cond.methodLink RX7 134 yX7_checkPlace, Cond.static yX7_checkPlace, Cond.code yX7_checkPlace cX7_checkPlace 1 none, Cond.classLink RX7 196 "java/lang/IndexOutOfBoundsException", Cond.initialized "java/lang/IndexOutOfBoundsException", Cond.methodLink RX7 75 yX7_takesFirst, Cond.static yX7_takesFirst, Cond.code yX7_takesFirst cX7_takesFirst 1 (some .boolean), Cond.methodLink RX7 79 yX7_takesSecond, Cond.static yX7_takesSecond, Cond.code yX7_takesSecond cX7_takesSecond 1 (some .boolean), Cond.methodLink RX7 82 yX7_checkArgument, Cond.static yX7_checkArgument]
def wsX7_define_r2 : List Cond := [Cond.code yX7_checkArgument cX7_checkArgument 1 none, Cond.classLink RX7 199 "java/lang/IllegalArgumentException", Cond.initialized "java/lang/IllegalArgumentException", Cond.methodLink RX7 86 yX5_kind, Cond.instanceMethod yX5_kind, Cond.selects RX5 yX5_kind yX5_kind, Cond.initialized RX5, Cond.code yX5_kind cX5_kind 2 (some .int), Cond.fieldLink RX5 9 "TaxEngine$Sheet" "kinds" "[I", Cond.static yX7_at, Cond.code yX7_at cX7_at 2 (some .int), Cond.methodLink RX7 90 yX5_first, Cond.instanceMethod yX5_first, Cond.selects RX5 yX5_first yX5_first, Cond.code yX5_first cX5_first 2 (some .int), Cond.fieldLink RX5 15 "TaxEngine$Sheet" "firsts" "[I", Cond.methodLink RX7 93 yX5_second, Cond.instanceMethod yX5_second, Cond.selects RX5 yX5_second yX5_second, Cond.code yX5_second cX5_second 2 (some .int), Cond.fieldLink RX5 18 "TaxEngine$Sheet" "seconds" "[I", Cond.methodLink RX7 96 yX5_set, Cond.instanceMethod yX5_set, Cond.selects RX5 yX5_set yX5_set]
def wsX7_define_r3 : List Cond := [Cond.code yX5_set cX5_set 5 none, Cond.static yX7_put, Cond.code yX7_put cX7_put 3 none, Cond.methodLink RX7 63 yX4_make, Cond.instanceMethod yX4_make, Cond.selects RX4 yX4_make yX4_make, Cond.initialized RX4, Cond.code yX4_make cX4_make 4 (some .boolean), Cond.fieldLink RX4 28 "TaxEngine$Plan" "size" "I", Cond.fieldLink RX4 32 "TaxEngine$Plan" "placed" "I", Cond.constant RX4 35 (65535), Cond.methodLink RX4 21 yX4_findReach, Cond.instanceMethod yX4_findReach, Cond.selects RX4 yX4_findReach yX4_findReach, Cond.code yX4_findReach cX4_findReach 4 none, Cond.fieldLink RX4 9 "TaxEngine$Plan" "reach" "[I", Cond.methodLink RX4 68 yX5_uses, Cond.instanceMethod yX5_uses, Cond.selects RX5 yX5_uses yX5_uses, Cond.code yX5_uses cX5_uses 4 (some .int), Cond.methodLink RX5 32 yX5_kind, Cond.methodLink RX5 40 yX5_first, Cond.static yX7_bit, Cond.code yX7_bit cX7_bit 1 (some .int)]
def wsX7_define_r4 : List Cond := [Cond.methodLink RX5 49 yX5_second, Cond.methodLink RX4 59 yX4_reach, Cond.instanceMethod yX4_reach, Cond.selects RX4 yX4_reach yX4_reach, Cond.code yX4_reach cX4_reach 2 (some .int), Cond.static yX7_has, Cond.code yX7_has cX7_has 2 (some .boolean), Cond.methodLink RX7 202 yX7_bit, Cond.methodLink RX4 25 yX4_findGroups, Cond.instanceMethod yX4_findGroups, Cond.selects RX4 yX4_findGroups yX4_findGroups, Cond.code yX4_findGroups cX4_findGroups 4 none, Cond.fieldLink RX4 15 "TaxEngine$Plan" "groups" "[I", Cond.methodLink RX4 36 yX4_isReady, Cond.instanceMethod yX4_isReady, Cond.selects RX4 yX4_isReady yX4_isReady, Cond.code yX4_isReady cX4_isReady 2 (some .boolean), Cond.methodLink RX4 47 yX4_groupOf, Cond.instanceMethod yX4_groupOf, Cond.selects RX4 yX4_groupOf yX4_groupOf, Cond.code yX4_groupOf cX4_groupOf 2 (some .int), Cond.methodLink RX4 40 yX4_isCircular, Cond.instanceMethod yX4_isCircular, Cond.selects RX4 yX4_isCircular yX4_isCircular]
def wsX7_define_r5 : List Cond := [Cond.code yX4_isCircular cX4_isCircular 2 (some .boolean), Cond.methodLink RX4 43 yX4_place, Cond.instanceMethod yX4_place, Cond.selects RX4 yX4_place yX4_place, Cond.code yX4_place cX4_place 2 none, Cond.fieldLink RX4 18 "TaxEngine$Plan" "order" "[I", Cond.methodLink RX4 51 yX4_placeCircle, Cond.instanceMethod yX4_placeCircle, Cond.selects RX4 yX4_placeCircle yX4_placeCircle, Cond.code yX4_placeCircle cX4_placeCircle 6 (some .boolean), Cond.fieldLink RX4 87 "TaxEngine$Plan" "rising" "I", Cond.fieldLink RX4 90 "TaxEngine$Plan" "falling" "I", Cond.methodLink RX4 80 yX4_onlyLimit, Cond.instanceMethod yX4_onlyLimit, Cond.selects RX4 yX4_onlyLimit yX4_onlyLimit, Cond.code yX4_onlyLimit cX4_onlyLimit 5 (some .int), Cond.methodLink RX4 100 yX5_kind, Cond.methodLink RX4 84 yX5_first, Cond.methodLink RX4 93 yX4_direct, Cond.instanceMethod yX4_direct, Cond.selects RX4 yX4_direct yX4_direct, Cond.code yX4_direct cX4_direct 8 none, Cond.methodLink RX4 97 yX5_second]
def wsX7_define : List Cond := .code yX7_define cX7_define 9 none :: ((wsX7_define_r1 ++ (wsX7_define_r2 ++ (wsX7_define_r3 ++ (wsX7_define_r4 ++ wsX7_define_r5)))) ++ wsX70 ++ wsX50 ++ wsX40 ++ (vx_at0 RX7 102 "java/lang/IllegalStateException" ["java/lang/RuntimeException", "java/lang/Exception"]).filter goodWord ++ (vx_at0 RX7 198 "java/lang/IndexOutOfBoundsException" ["java/lang/RuntimeException", "java/lang/Exception"]).filter goodWord ++ (vx_at0 RX7 201 "java/lang/IllegalArgumentException" ["java/lang/RuntimeException", "java/lang/Exception"]).filter goodWord)
def wsX7_answer_r1 : List Cond := [Cond.constant RX7 103 (1000000), Cond.fieldLink RX7 10 "TaxEngine" "sheet" "LTaxEngine$Sheet;", Cond.methodLink RX7 67 yX7_checkLine, Cond.static yX7_checkLine, Cond.initialized RX7, Cond.code yX7_checkLine cX7_checkLine 1 none, Cond.methodLink RX7 71 yX7_isWithin, Cond.static yX7_isWithin, Cond.code yX7_isWithin cX7_isWithin 3 (some .boolean), Cond.methodLink RX7 134 yX7_checkPlace, Cond.static yX7_checkPlace, Cond.code yX7_checkPlace cX7_checkPlace 1 none, Cond.classLink RX7 196 "java/lang/IndexOutOfBoundsException", Cond.initialized "java/lang/IndexOutOfBoundsException", Cond.methodLink RX7 82 yX7_checkArgument, Cond.static yX7_checkArgument, Cond.code yX7_checkArgument cX7_checkArgument 1 none, Cond.classLink RX7 199 "java/lang/IllegalArgumentException", Cond.initialized "java/lang/IllegalArgumentException", Cond.methodLink RX7 104 yX5_given, Cond.instanceMethod yX5_given, Cond.selects RX5 yX5_given yX5_given, Cond.initialized RX5, Cond.code yX5_given cX5_given 2 (some .int)]
def wsX7_answer_r2 : List Cond := [Cond.fieldLink RX5 21 "TaxEngine$Sheet" "answers" "[I", Cond.static yX7_at, Cond.code yX7_at cX7_at 2 (some .int), Cond.methodLink RX7 107 yX5_give, Cond.instanceMethod yX5_give, Cond.selects RX5 yX5_give yX5_give, Cond.code yX5_give cX5_give 3 none, Cond.static yX7_put, Cond.code yX7_put cX7_put 3 none]
def wsX7_answer : List Cond := .code yX7_answer cX7_answer 4 (some .int) :: ((wsX7_answer_r1 ++ wsX7_answer_r2) ++ wsX70 ++ wsX50 ++ (vx_at0 RX7 198 "java/lang/IndexOutOfBoundsException" ["java/lang/RuntimeException", "java/lang/Exception"]).filter goodWord ++ (vx_at0 RX7 201 "java/lang/IllegalArgumentException" ["java/lang/RuntimeException", "java/lang/Exception"]).filter goodWord)
def wsX7_kindOf : List Cond := .code yX7_kindOf cX7_kindOf 2 (some .int) :: ([.fieldLink RX7 10 "TaxEngine" "sheet" "LTaxEngine$Sheet;", .methodLink RX7 67 yX7_checkLine, .static yX7_checkLine, .initialized RX7, .code yX7_checkLine cX7_checkLine 1 none, .methodLink RX7 71 yX7_isWithin, .static yX7_isWithin, .code yX7_isWithin cX7_isWithin 3 (some .boolean), .methodLink RX7 134 yX7_checkPlace, .static yX7_checkPlace, .code yX7_checkPlace cX7_checkPlace 1 none, .classLink RX7 196 "java/lang/IndexOutOfBoundsException", .initialized "java/lang/IndexOutOfBoundsException", .methodLink RX7 86 yX5_kind, .instanceMethod yX5_kind, .selects RX5 yX5_kind yX5_kind, .initialized RX5, .code yX5_kind cX5_kind 2 (some .int), .fieldLink RX5 9 "TaxEngine$Sheet" "kinds" "[I", .static yX7_at, .code yX7_at cX7_at 2 (some .int)] ++ wsX70 ++ wsX50 ++ (vx_at0 RX7 198 "java/lang/IndexOutOfBoundsException" ["java/lang/RuntimeException", "java/lang/Exception"]).filter goodWord)
def wsX7_value_r1 : List Cond := [Cond.fieldLink RX7 49 "TaxEngine" "values" "LTaxEngine$Values;", Cond.methodLink RX7 67 yX7_checkLine, Cond.static yX7_checkLine, Cond.initialized RX7, Cond.code yX7_checkLine cX7_checkLine 1 none, Cond.methodLink RX7 71 yX7_isWithin, Cond.static yX7_isWithin, Cond.code yX7_isWithin cX7_isWithin 3 (some .boolean), Cond.methodLink RX7 134 yX7_checkPlace, Cond.static yX7_checkPlace, Cond.code yX7_checkPlace cX7_checkPlace 1 none, Cond.classLink RX7 196 "java/lang/IndexOutOfBoundsException", Cond.initialized "java/lang/IndexOutOfBoundsException", Cond.methodLink RX7 111 yX6_workOut, Cond.instanceMethod yX6_workOut, Cond.selects RX6 yX6_workOut yX6_workOut, Cond.initialized RX6, Cond.code yX6_workOut cX6_workOut 5 none, Cond.fieldLink RX6 15 "TaxEngine$Values" "raised" "I", Cond.fieldLink RX6 23 "TaxEngine$Values" "plan" "LTaxEngine$Plan;", Cond.fieldLink RX6 19 "TaxEngine$Values" "sheet" "LTaxEngine$Sheet;", Cond.fieldLink RX6 9 "TaxEngine$Values" "numbers" "[I", Cond.methodLink RX6 39 yX4_lineAt, Cond.instanceMethod yX4_lineAt]
def wsX7_value_r2 : List Cond := [Cond.selects RX4 yX4_lineAt yX4_lineAt, Cond.initialized RX4, Cond.code yX4_lineAt cX4_lineAt 2 (some .int), Cond.fieldLink RX4 18 "TaxEngine$Plan" "order" "[I", Cond.static yX7_at, Cond.code yX7_at cX7_at 2 (some .int), Cond.methodLink RX6 45 yX5_kind, Cond.instanceMethod yX5_kind, Cond.selects RX5 yX5_kind yX5_kind, Cond.initialized RX5, Cond.code yX5_kind cX5_kind 2 (some .int), Cond.fieldLink RX5 9 "TaxEngine$Sheet" "kinds" "[I", Cond.methodLink RX6 50 yX4_isCircular, Cond.instanceMethod yX4_isCircular, Cond.selects RX4 yX4_isCircular yX4_isCircular, Cond.code yX4_isCircular cX4_isCircular 2 (some .boolean), Cond.methodLink RX4 59 yX4_reach, Cond.instanceMethod yX4_reach, Cond.selects RX4 yX4_reach yX4_reach, Cond.code yX4_reach cX4_reach 2 (some .int), Cond.fieldLink RX4 9 "TaxEngine$Plan" "reach" "[I", Cond.static yX7_has, Cond.code yX7_has cX7_has 2 (some .boolean), Cond.methodLink RX7 202 yX7_bit]
def wsX7_value_r3 : List Cond := [Cond.static yX7_bit, Cond.code yX7_bit cX7_bit 1 (some .int), Cond.methodLink RX6 54 yX6_greatest, Cond.instanceMethod yX6_greatest, Cond.selects RX6 yX6_greatest yX6_greatest, Cond.code yX6_greatest cX6_greatest 7 (some .int), Cond.methodLink RX6 72 yX5_first, Cond.instanceMethod yX5_first, Cond.selects RX5 yX5_first yX5_first, Cond.code yX5_first cX5_first 2 (some .int), Cond.fieldLink RX5 15 "TaxEngine$Sheet" "firsts" "[I", Cond.methodLink RX6 75 yX6_of, Cond.instanceMethod yX6_of, Cond.selects RX6 yX6_of yX6_of, Cond.code yX6_of cX6_of 2 (some .int), Cond.methodLink RX6 78 yX6_suppose, Cond.instanceMethod yX6_suppose, Cond.selects RX6 yX6_suppose yX6_suppose, Cond.code yX6_suppose cX6_suppose 7 none, Cond.static yX7_put, Cond.code yX7_put cX7_put 3 none, Cond.methodLink RX6 64 yX4_groupOf, Cond.instanceMethod yX4_groupOf, Cond.selects RX4 yX4_groupOf yX4_groupOf]
def wsX7_value_r4 : List Cond := [Cond.code yX4_groupOf cX4_groupOf 2 (some .int), Cond.fieldLink RX4 15 "TaxEngine$Plan" "groups" "[I", Cond.methodLink RX6 67 yJ6_bitCount_0f7a4, Cond.static yJ6_bitCount_0f7a4, Cond.initialized RJ6, Cond.code yJ6_bitCount_0f7a4 cJ6_bitCount_0f7a4 1 (some .int), Cond.constant RJ6 265 (1431655765), Cond.constant RJ6 266 (858993459), Cond.constant RJ6 267 (252645135), Cond.methodLink RX6 57 yX6_plain, Cond.instanceMethod yX6_plain, Cond.selects RX6 yX6_plain yX6_plain, Cond.code yX6_plain cX6_plain 4 (some .int), Cond.constant RX6 85 (1000000000), Cond.methodLink RX6 86 Lib.Math.min.name, Cond.static Lib.Math.min.name, Cond.initialized "java/lang/Math", Cond.code Lib.Math.min.name Lib.Math.min.code 2 (some .int), Cond.methodLink RX6 92 Lib.Math.max.name, Cond.static Lib.Math.max.name, Cond.code Lib.Math.max.name Lib.Math.max.code 2 (some .int), Cond.fieldLink RX6 27 "TaxEngine$Values" "brackets" "LTaxEngine$Brackets;", Cond.fieldLink RX6 31 "TaxEngine$Values" "amounts" "LTaxEngine$Amounts;", Cond.methodLink RX6 82 yX5_second]
def wsX7_value_r5 : List Cond := [Cond.instanceMethod yX5_second, Cond.selects RX5 yX5_second yX5_second, Cond.code yX5_second cX5_second 2 (some .int), Cond.fieldLink RX5 18 "TaxEngine$Sheet" "seconds" "[I", Cond.static yX7_thousandths, Cond.code yX7_thousandths cX7_thousandths 2 (some .int), Cond.constantLong RX7 205 (1000), Cond.methodLink RX6 98 yX1_tax, Cond.instanceMethod yX1_tax, Cond.selects RX1 yX1_tax yX1_tax, Cond.initialized RX1, Cond.code yX1_tax cX1_tax 6 (some .int), Cond.fieldLink RX1 18 "TaxEngine$Brackets" "count" "I", Cond.fieldLink RX1 9 "TaxEngine$Brackets" "thresholds" "[I", Cond.methodLink RX1 38 Lib.Math.min.name, Cond.methodLink RX1 44 Lib.Math.max.name, Cond.fieldLink RX1 15 "TaxEngine$Brackets" "rates" "[I", Cond.methodLink RX6 103 yX0_total, Cond.instanceMethod yX0_total, Cond.selects RX0 yX0_total yX0_total, Cond.initialized RX0, Cond.code yX0_total cX0_total 3 (some .int), Cond.fieldLink RX0 22 "TaxEngine$Amounts" "count" "I", Cond.methodLink RX0 29 yX0_leftAt]
def wsX7_value_r6 : List Cond := [Cond.instanceMethod yX0_leftAt, Cond.selects RX0 yX0_leftAt yX0_leftAt, Cond.code yX0_leftAt cX0_leftAt 2 (some .int), Cond.fieldLink RX0 9 "TaxEngine$Amounts" "lefts" "[I", Cond.methodLink RX6 109 yX5_given, Cond.instanceMethod yX5_given, Cond.selects RX5 yX5_given yX5_given, Cond.code yX5_given cX5_given 2 (some .int), Cond.fieldLink RX5 21 "TaxEngine$Sheet" "answers" "[I", Cond.methodLink RX7 114 yX6_of]
def wsX7_value : List Cond := .code yX7_value cX7_value 2 (some .int) :: ((wsX7_value_r1 ++ (wsX7_value_r2 ++ (wsX7_value_r3 ++ (wsX7_value_r4 ++ (wsX7_value_r5 ++ wsX7_value_r6))))) ++ wsX70 ++ wsX60 ++ wsX40 ++ wsX50 ++ wsX10 ++ wsX00 ++ (vx_at0 RX7 198 "java/lang/IndexOutOfBoundsException" ["java/lang/RuntimeException", "java/lang/Exception"]).filter goodWord)
def wsX7_checkState : List Cond := .code yX7_checkState cX7_checkState 1 none :: ([.classLink RX7 100 "java/lang/IllegalStateException", .initialized "java/lang/IllegalStateException"] ++ (vx_at0 RX7 102 "java/lang/IllegalStateException" ["java/lang/RuntimeException", "java/lang/Exception"]).filter goodWord)
def wsX7_boundFor_r1 : List Cond := [Cond.constant RX7 117 (1000000000), Cond.fieldLink RX7 10 "TaxEngine" "sheet" "LTaxEngine$Sheet;", Cond.fieldLink RX7 49 "TaxEngine" "values" "LTaxEngine$Values;", Cond.fieldLink RX7 19 "TaxEngine" "plan" "LTaxEngine$Plan;", Cond.methodLink RX7 67 yX7_checkLine, Cond.static yX7_checkLine, Cond.initialized RX7, Cond.code yX7_checkLine cX7_checkLine 1 none, Cond.methodLink RX7 71 yX7_isWithin, Cond.static yX7_isWithin, Cond.code yX7_isWithin cX7_isWithin 3 (some .boolean), Cond.methodLink RX7 134 yX7_checkPlace, Cond.static yX7_checkPlace, Cond.code yX7_checkPlace cX7_checkPlace 1 none, Cond.classLink RX7 196 "java/lang/IndexOutOfBoundsException", Cond.initialized "java/lang/IndexOutOfBoundsException", Cond.methodLink RX7 82 yX7_checkArgument, Cond.static yX7_checkArgument, Cond.code yX7_checkArgument cX7_checkArgument 1 none, Cond.classLink RX7 199 "java/lang/IllegalArgumentException", Cond.initialized "java/lang/IllegalArgumentException", Cond.methodLink RX7 86 yX5_kind, Cond.instanceMethod yX5_kind, Cond.selects RX5 yX5_kind yX5_kind]
def wsX7_boundFor_r2 : List Cond := [Cond.initialized RX5, Cond.code yX5_kind cX5_kind 2 (some .int), Cond.fieldLink RX5 9 "TaxEngine$Sheet" "kinds" "[I", Cond.static yX7_at, Cond.code yX7_at cX7_at 2 (some .int), Cond.methodLink RX7 118 yX7_checkState, Cond.static yX7_checkState, Cond.code yX7_checkState cX7_checkState 1 none, Cond.classLink RX7 100 "java/lang/IllegalStateException", Cond.initialized "java/lang/IllegalStateException", Cond.methodLink RX7 111 yX6_workOut, Cond.instanceMethod yX6_workOut, Cond.selects RX6 yX6_workOut yX6_workOut, Cond.initialized RX6, Cond.code yX6_workOut cX6_workOut 5 none, Cond.fieldLink RX6 15 "TaxEngine$Values" "raised" "I", Cond.fieldLink RX6 23 "TaxEngine$Values" "plan" "LTaxEngine$Plan;", Cond.fieldLink RX6 19 "TaxEngine$Values" "sheet" "LTaxEngine$Sheet;", Cond.fieldLink RX6 9 "TaxEngine$Values" "numbers" "[I", Cond.methodLink RX6 39 yX4_lineAt, Cond.instanceMethod yX4_lineAt, Cond.selects RX4 yX4_lineAt yX4_lineAt, Cond.initialized RX4, Cond.code yX4_lineAt cX4_lineAt 2 (some .int)]
def wsX7_boundFor_r3 : List Cond := [Cond.fieldLink RX4 18 "TaxEngine$Plan" "order" "[I", Cond.methodLink RX6 45 yX5_kind, Cond.methodLink RX6 50 yX4_isCircular, Cond.instanceMethod yX4_isCircular, Cond.selects RX4 yX4_isCircular yX4_isCircular, Cond.code yX4_isCircular cX4_isCircular 2 (some .boolean), Cond.methodLink RX4 59 yX4_reach, Cond.instanceMethod yX4_reach, Cond.selects RX4 yX4_reach yX4_reach, Cond.code yX4_reach cX4_reach 2 (some .int), Cond.fieldLink RX4 9 "TaxEngine$Plan" "reach" "[I", Cond.static yX7_has, Cond.code yX7_has cX7_has 2 (some .boolean), Cond.methodLink RX7 202 yX7_bit, Cond.static yX7_bit, Cond.code yX7_bit cX7_bit 1 (some .int), Cond.methodLink RX6 54 yX6_greatest, Cond.instanceMethod yX6_greatest, Cond.selects RX6 yX6_greatest yX6_greatest, Cond.code yX6_greatest cX6_greatest 7 (some .int), Cond.methodLink RX6 72 yX5_first, Cond.instanceMethod yX5_first, Cond.selects RX5 yX5_first yX5_first, Cond.code yX5_first cX5_first 2 (some .int)]
def wsX7_boundFor_r4 : List Cond := [Cond.fieldLink RX5 15 "TaxEngine$Sheet" "firsts" "[I", Cond.methodLink RX6 75 yX6_of, Cond.instanceMethod yX6_of, Cond.selects RX6 yX6_of yX6_of, Cond.code yX6_of cX6_of 2 (some .int), Cond.methodLink RX6 78 yX6_suppose, Cond.instanceMethod yX6_suppose, Cond.selects RX6 yX6_suppose yX6_suppose, Cond.code yX6_suppose cX6_suppose 7 none, Cond.static yX7_put, Cond.code yX7_put cX7_put 3 none, Cond.methodLink RX6 64 yX4_groupOf, Cond.instanceMethod yX4_groupOf, Cond.selects RX4 yX4_groupOf yX4_groupOf, Cond.code yX4_groupOf cX4_groupOf 2 (some .int), Cond.fieldLink RX4 15 "TaxEngine$Plan" "groups" "[I", Cond.methodLink RX6 67 yJ6_bitCount_0f7a4, Cond.static yJ6_bitCount_0f7a4, Cond.initialized RJ6, Cond.code yJ6_bitCount_0f7a4 cJ6_bitCount_0f7a4 1 (some .int), Cond.constant RJ6 265 (1431655765), Cond.constant RJ6 266 (858993459), Cond.constant RJ6 267 (252645135), Cond.methodLink RX6 57 yX6_plain]
def wsX7_boundFor_r5 : List Cond := [Cond.instanceMethod yX6_plain, Cond.selects RX6 yX6_plain yX6_plain, Cond.code yX6_plain cX6_plain 4 (some .int), Cond.constant RX6 85 (1000000000), Cond.methodLink RX6 86 Lib.Math.min.name, Cond.static Lib.Math.min.name, Cond.initialized "java/lang/Math", Cond.code Lib.Math.min.name Lib.Math.min.code 2 (some .int), Cond.methodLink RX6 92 Lib.Math.max.name, Cond.static Lib.Math.max.name, Cond.code Lib.Math.max.name Lib.Math.max.code 2 (some .int), Cond.fieldLink RX6 27 "TaxEngine$Values" "brackets" "LTaxEngine$Brackets;", Cond.fieldLink RX6 31 "TaxEngine$Values" "amounts" "LTaxEngine$Amounts;", Cond.methodLink RX6 82 yX5_second, Cond.instanceMethod yX5_second, Cond.selects RX5 yX5_second yX5_second, Cond.code yX5_second cX5_second 2 (some .int), Cond.fieldLink RX5 18 "TaxEngine$Sheet" "seconds" "[I", Cond.static yX7_thousandths, Cond.code yX7_thousandths cX7_thousandths 2 (some .int), Cond.constantLong RX7 205 (1000), Cond.methodLink RX6 98 yX1_tax, Cond.instanceMethod yX1_tax, Cond.selects RX1 yX1_tax yX1_tax]
def wsX7_boundFor_r6 : List Cond := [Cond.initialized RX1, Cond.code yX1_tax cX1_tax 6 (some .int), Cond.fieldLink RX1 18 "TaxEngine$Brackets" "count" "I", Cond.fieldLink RX1 9 "TaxEngine$Brackets" "thresholds" "[I", Cond.methodLink RX1 38 Lib.Math.min.name, Cond.methodLink RX1 44 Lib.Math.max.name, Cond.fieldLink RX1 15 "TaxEngine$Brackets" "rates" "[I", Cond.methodLink RX6 103 yX0_total, Cond.instanceMethod yX0_total, Cond.selects RX0 yX0_total yX0_total, Cond.initialized RX0, Cond.code yX0_total cX0_total 3 (some .int), Cond.fieldLink RX0 22 "TaxEngine$Amounts" "count" "I", Cond.methodLink RX0 29 yX0_leftAt, Cond.instanceMethod yX0_leftAt, Cond.selects RX0 yX0_leftAt yX0_leftAt, Cond.code yX0_leftAt cX0_leftAt 2 (some .int), Cond.fieldLink RX0 9 "TaxEngine$Amounts" "lefts" "[I", Cond.methodLink RX6 109 yX5_given, Cond.instanceMethod yX5_given, Cond.selects RX5 yX5_given yX5_given, Cond.code yX5_given cX5_given 2 (some .int), Cond.fieldLink RX5 21 "TaxEngine$Sheet" "answers" "[I", Cond.methodLink RX7 121 yX4_placeOf]
def wsX7_boundFor_r7 : List Cond := [Cond.instanceMethod yX4_placeOf, Cond.selects RX4 yX4_placeOf yX4_placeOf, Cond.code yX4_placeOf cX4_placeOf 3 (some .int), Cond.methodLink RX4 65 yX4_lineAt, Cond.methodLink RX7 124 yX6_suppose, Cond.methodLink RX7 93 yX5_second, Cond.methodLink RX7 114 yX6_of]
def wsX7_boundFor : List Cond := .code yX7_boundFor cX7_boundFor 3 (some .int) :: ((wsX7_boundFor_r1 ++ (wsX7_boundFor_r2 ++ (wsX7_boundFor_r3 ++ (wsX7_boundFor_r4 ++ (wsX7_boundFor_r5 ++ (wsX7_boundFor_r6 ++ wsX7_boundFor_r7)))))) ++ wsX70 ++ wsX50 ++ wsX60 ++ wsX40 ++ wsX10 ++ wsX00 ++ (vx_at0 RX7 198 "java/lang/IndexOutOfBoundsException" ["java/lang/RuntimeException", "java/lang/Exception"]).filter goodWord ++ (vx_at0 RX7 201 "java/lang/IllegalArgumentException" ["java/lang/RuntimeException", "java/lang/Exception"]).filter goodWord ++ (vx_at0 RX7 102 "java/lang/IllegalStateException" ["java/lang/RuntimeException", "java/lang/Exception"]).filter goodWord)
def wsX7_dependsOn_r1 : List Cond := [Cond.fieldLink RX7 19 "TaxEngine" "plan" "LTaxEngine$Plan;", Cond.methodLink RX7 67 yX7_checkLine, Cond.static yX7_checkLine, Cond.initialized RX7, Cond.code yX7_checkLine cX7_checkLine 1 none, Cond.methodLink RX7 71 yX7_isWithin, Cond.static yX7_isWithin, Cond.code yX7_isWithin cX7_isWithin 3 (some .boolean), Cond.methodLink RX7 134 yX7_checkPlace, Cond.static yX7_checkPlace, Cond.code yX7_checkPlace cX7_checkPlace 1 none, Cond.classLink RX7 196 "java/lang/IndexOutOfBoundsException", Cond.initialized "java/lang/IndexOutOfBoundsException", Cond.methodLink RX7 127 yX4_reach, Cond.instanceMethod yX4_reach, Cond.selects RX4 yX4_reach yX4_reach, Cond.initialized RX4, Cond.code yX4_reach cX4_reach 2 (some .int), Cond.fieldLink RX4 9 "TaxEngine$Plan" "reach" "[I", Cond.static yX7_at, Cond.code yX7_at cX7_at 2 (some .int), Cond.methodLink RX7 130 yX7_has, Cond.static yX7_has, Cond.code yX7_has cX7_has 2 (some .boolean)]
def wsX7_dependsOn_r2 : List Cond := [Cond.methodLink RX7 202 yX7_bit, Cond.static yX7_bit, Cond.code yX7_bit cX7_bit 1 (some .int)]
def wsX7_dependsOn : List Cond := .code yX7_dependsOn cX7_dependsOn 3 (some .boolean) :: ((wsX7_dependsOn_r1 ++ wsX7_dependsOn_r2) ++ wsX70 ++ wsX40 ++ (vx_at0 RX7 198 "java/lang/IndexOutOfBoundsException" ["java/lang/RuntimeException", "java/lang/Exception"]).filter goodWord)
def wsX7_influence_r1 : List Cond := [Cond.fieldLink RX7 10 "TaxEngine" "sheet" "LTaxEngine$Sheet;", Cond.fieldLink RX7 49 "TaxEngine" "values" "LTaxEngine$Values;", Cond.fieldLink RX7 53 "TaxEngine" "raisedValues" "LTaxEngine$Values;", Cond.methodLink RX7 67 yX7_checkLine, Cond.static yX7_checkLine, Cond.initialized RX7, Cond.code yX7_checkLine cX7_checkLine 1 none, Cond.methodLink RX7 71 yX7_isWithin, Cond.static yX7_isWithin, Cond.code yX7_isWithin cX7_isWithin 3 (some .boolean), Cond.methodLink RX7 134 yX7_checkPlace, Cond.static yX7_checkPlace, Cond.code yX7_checkPlace cX7_checkPlace 1 none, Cond.classLink RX7 196 "java/lang/IndexOutOfBoundsException", Cond.initialized "java/lang/IndexOutOfBoundsException", Cond.methodLink RX7 86 yX5_kind, Cond.instanceMethod yX5_kind, Cond.selects RX5 yX5_kind yX5_kind, Cond.initialized RX5, Cond.code yX5_kind cX5_kind 2 (some .int), Cond.fieldLink RX5 9 "TaxEngine$Sheet" "kinds" "[I", Cond.static yX7_at, Cond.code yX7_at cX7_at 2 (some .int), Cond.methodLink RX7 111 yX6_workOut]
def wsX7_influence_r2 : List Cond := [Cond.instanceMethod yX6_workOut, Cond.selects RX6 yX6_workOut yX6_workOut, Cond.initialized RX6, Cond.code yX6_workOut cX6_workOut 5 none, Cond.fieldLink RX6 15 "TaxEngine$Values" "raised" "I", Cond.fieldLink RX6 23 "TaxEngine$Values" "plan" "LTaxEngine$Plan;", Cond.fieldLink RX6 19 "TaxEngine$Values" "sheet" "LTaxEngine$Sheet;", Cond.fieldLink RX6 9 "TaxEngine$Values" "numbers" "[I", Cond.methodLink RX6 39 yX4_lineAt, Cond.instanceMethod yX4_lineAt, Cond.selects RX4 yX4_lineAt yX4_lineAt, Cond.initialized RX4, Cond.code yX4_lineAt cX4_lineAt 2 (some .int), Cond.fieldLink RX4 18 "TaxEngine$Plan" "order" "[I", Cond.methodLink RX6 45 yX5_kind, Cond.methodLink RX6 50 yX4_isCircular, Cond.instanceMethod yX4_isCircular, Cond.selects RX4 yX4_isCircular yX4_isCircular, Cond.code yX4_isCircular cX4_isCircular 2 (some .boolean), Cond.methodLink RX4 59 yX4_reach, Cond.instanceMethod yX4_reach, Cond.selects RX4 yX4_reach yX4_reach, Cond.code yX4_reach cX4_reach 2 (some .int), Cond.fieldLink RX4 9 "TaxEngine$Plan" "reach" "[I"]
def wsX7_influence_r3 : List Cond := [Cond.static yX7_has, Cond.code yX7_has cX7_has 2 (some .boolean), Cond.methodLink RX7 202 yX7_bit, Cond.static yX7_bit, Cond.code yX7_bit cX7_bit 1 (some .int), Cond.methodLink RX6 54 yX6_greatest, Cond.instanceMethod yX6_greatest, Cond.selects RX6 yX6_greatest yX6_greatest, Cond.code yX6_greatest cX6_greatest 7 (some .int), Cond.methodLink RX6 72 yX5_first, Cond.instanceMethod yX5_first, Cond.selects RX5 yX5_first yX5_first, Cond.code yX5_first cX5_first 2 (some .int), Cond.fieldLink RX5 15 "TaxEngine$Sheet" "firsts" "[I", Cond.methodLink RX6 75 yX6_of, Cond.instanceMethod yX6_of, Cond.selects RX6 yX6_of yX6_of, Cond.code yX6_of cX6_of 2 (some .int), Cond.methodLink RX6 78 yX6_suppose, Cond.instanceMethod yX6_suppose, Cond.selects RX6 yX6_suppose yX6_suppose, Cond.code yX6_suppose cX6_suppose 7 none, Cond.static yX7_put, Cond.code yX7_put cX7_put 3 none]
def wsX7_influence_r4 : List Cond := [Cond.methodLink RX6 64 yX4_groupOf, Cond.instanceMethod yX4_groupOf, Cond.selects RX4 yX4_groupOf yX4_groupOf, Cond.code yX4_groupOf cX4_groupOf 2 (some .int), Cond.fieldLink RX4 15 "TaxEngine$Plan" "groups" "[I", Cond.methodLink RX6 67 yJ6_bitCount_0f7a4, Cond.static yJ6_bitCount_0f7a4, Cond.initialized RJ6, Cond.code yJ6_bitCount_0f7a4 cJ6_bitCount_0f7a4 1 (some .int), Cond.constant RJ6 265 (1431655765), Cond.constant RJ6 266 (858993459), Cond.constant RJ6 267 (252645135), Cond.methodLink RX6 57 yX6_plain, Cond.instanceMethod yX6_plain, Cond.selects RX6 yX6_plain yX6_plain, Cond.code yX6_plain cX6_plain 4 (some .int), Cond.constant RX6 85 (1000000000), Cond.methodLink RX6 86 Lib.Math.min.name, Cond.static Lib.Math.min.name, Cond.initialized "java/lang/Math", Cond.code Lib.Math.min.name Lib.Math.min.code 2 (some .int), Cond.methodLink RX6 92 Lib.Math.max.name, Cond.static Lib.Math.max.name, Cond.code Lib.Math.max.name Lib.Math.max.code 2 (some .int)]
def wsX7_influence_r5 : List Cond := [Cond.fieldLink RX6 27 "TaxEngine$Values" "brackets" "LTaxEngine$Brackets;", Cond.fieldLink RX6 31 "TaxEngine$Values" "amounts" "LTaxEngine$Amounts;", Cond.methodLink RX6 82 yX5_second, Cond.instanceMethod yX5_second, Cond.selects RX5 yX5_second yX5_second, Cond.code yX5_second cX5_second 2 (some .int), Cond.fieldLink RX5 18 "TaxEngine$Sheet" "seconds" "[I", Cond.static yX7_thousandths, Cond.code yX7_thousandths cX7_thousandths 2 (some .int), Cond.constantLong RX7 205 (1000), Cond.methodLink RX6 98 yX1_tax, Cond.instanceMethod yX1_tax, Cond.selects RX1 yX1_tax yX1_tax, Cond.initialized RX1, Cond.code yX1_tax cX1_tax 6 (some .int), Cond.fieldLink RX1 18 "TaxEngine$Brackets" "count" "I", Cond.fieldLink RX1 9 "TaxEngine$Brackets" "thresholds" "[I", Cond.methodLink RX1 38 Lib.Math.min.name, Cond.methodLink RX1 44 Lib.Math.max.name, Cond.fieldLink RX1 15 "TaxEngine$Brackets" "rates" "[I", Cond.methodLink RX6 103 yX0_total, Cond.instanceMethod yX0_total, Cond.selects RX0 yX0_total yX0_total, Cond.initialized RX0]
def wsX7_influence_r6 : List Cond := [Cond.code yX0_total cX0_total 3 (some .int), Cond.fieldLink RX0 22 "TaxEngine$Amounts" "count" "I", Cond.methodLink RX0 29 yX0_leftAt, Cond.instanceMethod yX0_leftAt, Cond.selects RX0 yX0_leftAt yX0_leftAt, Cond.code yX0_leftAt cX0_leftAt 2 (some .int), Cond.fieldLink RX0 9 "TaxEngine$Amounts" "lefts" "[I", Cond.methodLink RX6 109 yX5_given, Cond.instanceMethod yX5_given, Cond.selects RX5 yX5_given yX5_given, Cond.code yX5_given cX5_given 2 (some .int), Cond.fieldLink RX5 21 "TaxEngine$Sheet" "answers" "[I", Cond.methodLink RX7 114 yX6_of]
def wsX7_influence : List Cond := .code yX7_influence cX7_influence 4 (some .int) :: ((wsX7_influence_r1 ++ (wsX7_influence_r2 ++ (wsX7_influence_r3 ++ (wsX7_influence_r4 ++ (wsX7_influence_r5 ++ wsX7_influence_r6))))) ++ wsX70 ++ wsX50 ++ wsX60 ++ wsX40 ++ wsX10 ++ wsX00 ++ (vx_at0 RX7 198 "java/lang/IndexOutOfBoundsException" ["java/lang/RuntimeException", "java/lang/Exception"]).filter goodWord)
def wsX7_why_r1 : List Cond := [Cond.fieldLink RX7 49 "TaxEngine" "values" "LTaxEngine$Values;", Cond.fieldLink RX7 59 "TaxEngine" "explanation" "LTaxEngine$Explanation;", Cond.fieldLink RX7 10 "TaxEngine" "sheet" "LTaxEngine$Sheet;", Cond.methodLink RX7 67 yX7_checkLine, Cond.static yX7_checkLine, Cond.initialized RX7, Cond.code yX7_checkLine cX7_checkLine 1 none, Cond.methodLink RX7 71 yX7_isWithin, Cond.static yX7_isWithin, Cond.code yX7_isWithin cX7_isWithin 3 (some .boolean), Cond.methodLink RX7 134 yX7_checkPlace, Cond.static yX7_checkPlace, Cond.code yX7_checkPlace cX7_checkPlace 1 none, Cond.classLink RX7 196 "java/lang/IndexOutOfBoundsException", Cond.initialized "java/lang/IndexOutOfBoundsException", Cond.methodLink RX7 111 yX6_workOut, Cond.instanceMethod yX6_workOut, Cond.selects RX6 yX6_workOut yX6_workOut, Cond.initialized RX6, Cond.code yX6_workOut cX6_workOut 5 none, Cond.fieldLink RX6 15 "TaxEngine$Values" "raised" "I", Cond.fieldLink RX6 23 "TaxEngine$Values" "plan" "LTaxEngine$Plan;", Cond.fieldLink RX6 19 "TaxEngine$Values" "sheet" "LTaxEngine$Sheet;", Cond.fieldLink RX6 9 "TaxEngine$Values" "numbers" "[I"]
def wsX7_why_r2 : List Cond := [Cond.methodLink RX6 39 yX4_lineAt, Cond.instanceMethod yX4_lineAt, Cond.selects RX4 yX4_lineAt yX4_lineAt, Cond.initialized RX4, Cond.code yX4_lineAt cX4_lineAt 2 (some .int), Cond.fieldLink RX4 18 "TaxEngine$Plan" "order" "[I", Cond.static yX7_at, Cond.code yX7_at cX7_at 2 (some .int), Cond.methodLink RX6 45 yX5_kind, Cond.instanceMethod yX5_kind, Cond.selects RX5 yX5_kind yX5_kind, Cond.initialized RX5, Cond.code yX5_kind cX5_kind 2 (some .int), Cond.fieldLink RX5 9 "TaxEngine$Sheet" "kinds" "[I", Cond.methodLink RX6 50 yX4_isCircular, Cond.instanceMethod yX4_isCircular, Cond.selects RX4 yX4_isCircular yX4_isCircular, Cond.code yX4_isCircular cX4_isCircular 2 (some .boolean), Cond.methodLink RX4 59 yX4_reach, Cond.instanceMethod yX4_reach, Cond.selects RX4 yX4_reach yX4_reach, Cond.code yX4_reach cX4_reach 2 (some .int), Cond.fieldLink RX4 9 "TaxEngine$Plan" "reach" "[I", Cond.static yX7_has]
def wsX7_why_r3 : List Cond := [Cond.code yX7_has cX7_has 2 (some .boolean), Cond.methodLink RX7 202 yX7_bit, Cond.static yX7_bit, Cond.code yX7_bit cX7_bit 1 (some .int), Cond.methodLink RX6 54 yX6_greatest, Cond.instanceMethod yX6_greatest, Cond.selects RX6 yX6_greatest yX6_greatest, Cond.code yX6_greatest cX6_greatest 7 (some .int), Cond.methodLink RX6 72 yX5_first, Cond.instanceMethod yX5_first, Cond.selects RX5 yX5_first yX5_first, Cond.code yX5_first cX5_first 2 (some .int), Cond.fieldLink RX5 15 "TaxEngine$Sheet" "firsts" "[I", Cond.methodLink RX6 75 yX6_of, Cond.instanceMethod yX6_of, Cond.selects RX6 yX6_of yX6_of, Cond.code yX6_of cX6_of 2 (some .int), Cond.methodLink RX6 78 yX6_suppose, Cond.instanceMethod yX6_suppose, Cond.selects RX6 yX6_suppose yX6_suppose, Cond.code yX6_suppose cX6_suppose 7 none, Cond.static yX7_put, Cond.code yX7_put cX7_put 3 none, Cond.methodLink RX6 64 yX4_groupOf]
def wsX7_why_r4 : List Cond := [Cond.instanceMethod yX4_groupOf, Cond.selects RX4 yX4_groupOf yX4_groupOf, Cond.code yX4_groupOf cX4_groupOf 2 (some .int), Cond.fieldLink RX4 15 "TaxEngine$Plan" "groups" "[I", Cond.methodLink RX6 67 yJ6_bitCount_0f7a4, Cond.static yJ6_bitCount_0f7a4, Cond.initialized RJ6, Cond.code yJ6_bitCount_0f7a4 cJ6_bitCount_0f7a4 1 (some .int), Cond.constant RJ6 265 (1431655765), Cond.constant RJ6 266 (858993459), Cond.constant RJ6 267 (252645135), Cond.methodLink RX6 57 yX6_plain, Cond.instanceMethod yX6_plain, Cond.selects RX6 yX6_plain yX6_plain, Cond.code yX6_plain cX6_plain 4 (some .int), Cond.constant RX6 85 (1000000000), Cond.methodLink RX6 86 Lib.Math.min.name, Cond.static Lib.Math.min.name, Cond.initialized "java/lang/Math", Cond.code Lib.Math.min.name Lib.Math.min.code 2 (some .int), Cond.methodLink RX6 92 Lib.Math.max.name, Cond.static Lib.Math.max.name, Cond.code Lib.Math.max.name Lib.Math.max.code 2 (some .int), Cond.fieldLink RX6 27 "TaxEngine$Values" "brackets" "LTaxEngine$Brackets;"]
def wsX7_why_r5 : List Cond := [Cond.fieldLink RX6 31 "TaxEngine$Values" "amounts" "LTaxEngine$Amounts;", Cond.methodLink RX6 82 yX5_second, Cond.instanceMethod yX5_second, Cond.selects RX5 yX5_second yX5_second, Cond.code yX5_second cX5_second 2 (some .int), Cond.fieldLink RX5 18 "TaxEngine$Sheet" "seconds" "[I", Cond.static yX7_thousandths, Cond.code yX7_thousandths cX7_thousandths 2 (some .int), Cond.constantLong RX7 205 (1000), Cond.methodLink RX6 98 yX1_tax, Cond.instanceMethod yX1_tax, Cond.selects RX1 yX1_tax yX1_tax, Cond.initialized RX1, Cond.code yX1_tax cX1_tax 6 (some .int), Cond.fieldLink RX1 18 "TaxEngine$Brackets" "count" "I", Cond.fieldLink RX1 9 "TaxEngine$Brackets" "thresholds" "[I", Cond.methodLink RX1 38 Lib.Math.min.name, Cond.methodLink RX1 44 Lib.Math.max.name, Cond.fieldLink RX1 15 "TaxEngine$Brackets" "rates" "[I", Cond.methodLink RX6 103 yX0_total, Cond.instanceMethod yX0_total, Cond.selects RX0 yX0_total yX0_total, Cond.initialized RX0, Cond.code yX0_total cX0_total 3 (some .int)]
def wsX7_why_r6 : List Cond := [Cond.fieldLink RX0 22 "TaxEngine$Amounts" "count" "I", Cond.methodLink RX0 29 yX0_leftAt, Cond.instanceMethod yX0_leftAt, Cond.selects RX0 yX0_leftAt yX0_leftAt, Cond.code yX0_leftAt cX0_leftAt 2 (some .int), Cond.fieldLink RX0 9 "TaxEngine$Amounts" "lefts" "[I", Cond.methodLink RX6 109 yX5_given, Cond.instanceMethod yX5_given, Cond.selects RX5 yX5_given yX5_given, Cond.code yX5_given cX5_given 2 (some .int), Cond.fieldLink RX5 21 "TaxEngine$Sheet" "answers" "[I", Cond.methodLink RX7 137 yX3_explain, Cond.instanceMethod yX3_explain, Cond.selects RX3 yX3_explain yX3_explain, Cond.initialized RX3, Cond.code yX3_explain cX3_explain 5 none, Cond.fieldLink RX3 15 "TaxEngine$Explanation" "size" "I", Cond.fieldLink RX3 19 "TaxEngine$Explanation" "taken" "I", Cond.fieldLink RX3 9 "TaxEngine$Explanation" "row" "[I", Cond.methodLink RX3 22 yX3_add, Cond.instanceMethod yX3_add, Cond.selects RX3 yX3_add yX3_add, Cond.code yX3_add cX3_add 2 none, Cond.methodLink RX3 30 yX3_addReasons]
def wsX7_why_r7 : List Cond := [Cond.instanceMethod yX3_addReasons, Cond.selects RX3 yX3_addReasons yX3_addReasons, Cond.code yX3_addReasons cX3_addReasons 5 none, Cond.methodLink RX3 46 yX5_first, Cond.methodLink RX3 51 yX5_kind, Cond.methodLink RX3 54 yX5_second, Cond.methodLink RX3 57 yX6_of, Cond.methodLink RX7 141 yX3_lineAt, Cond.instanceMethod yX3_lineAt, Cond.selects RX3 yX3_lineAt yX3_lineAt, Cond.code yX3_lineAt cX3_lineAt 2 (some .int)]
def wsX7_why : List Cond := .code yX7_why cX7_why 3 (some .int) :: ((wsX7_why_r1 ++ (wsX7_why_r2 ++ (wsX7_why_r3 ++ (wsX7_why_r4 ++ (wsX7_why_r5 ++ (wsX7_why_r6 ++ wsX7_why_r7)))))) ++ wsX70 ++ wsX60 ++ wsX40 ++ wsX50 ++ wsX10 ++ wsX00 ++ wsX30 ++ (vx_at0 RX7 198 "java/lang/IndexOutOfBoundsException" ["java/lang/RuntimeException", "java/lang/Exception"]).filter goodWord)
def wsX7_bracket_r1 : List Cond := [Cond.constant RX7 103 (1000000), Cond.fieldLink RX7 26 "TaxEngine" "brackets" "LTaxEngine$Brackets;", Cond.methodLink RX7 71 yX7_isWithin, Cond.static yX7_isWithin, Cond.initialized RX7, Cond.code yX7_isWithin cX7_isWithin 3 (some .boolean), Cond.methodLink RX7 82 yX7_checkArgument, Cond.static yX7_checkArgument, Cond.code yX7_checkArgument cX7_checkArgument 1 none, Cond.classLink RX7 199 "java/lang/IllegalArgumentException", Cond.initialized "java/lang/IllegalArgumentException", Cond.methodLink RX7 144 yX1_hasRoomFor, Cond.instanceMethod yX1_hasRoomFor, Cond.selects RX1 yX1_hasRoomFor yX1_hasRoomFor, Cond.initialized RX1, Cond.code yX1_hasRoomFor cX1_hasRoomFor 2 (some .boolean), Cond.fieldLink RX1 18 "TaxEngine$Brackets" "count" "I", Cond.methodLink RX1 22 yX1_placeFor, Cond.instanceMethod yX1_placeFor, Cond.selects RX1 yX1_placeFor yX1_placeFor, Cond.code yX1_placeFor cX1_placeFor 3 (some .int), Cond.fieldLink RX1 9 "TaxEngine$Brackets" "thresholds" "[I", Cond.static yX7_at, Cond.code yX7_at cX7_at 2 (some .int)]
def wsX7_bracket_r2 : List Cond := [Cond.methodLink RX1 26 yX1_isAt, Cond.instanceMethod yX1_isAt, Cond.selects RX1 yX1_isAt yX1_isAt, Cond.code yX1_isAt cX1_isAt 3 (some .boolean), Cond.methodLink RX7 118 yX7_checkState, Cond.static yX7_checkState, Cond.code yX7_checkState cX7_checkState 1 none, Cond.classLink RX7 100 "java/lang/IllegalStateException", Cond.initialized "java/lang/IllegalStateException", Cond.methodLink RX7 147 yX1_set, Cond.instanceMethod yX1_set, Cond.selects RX1 yX1_set yX1_set, Cond.code yX1_set cX1_set 5 none, Cond.fieldLink RX1 15 "TaxEngine$Brackets" "rates" "[I", Cond.static yX7_put, Cond.code yX7_put cX7_put 3 none, Cond.methodLink RX7 149 yX1_size, Cond.instanceMethod yX1_size, Cond.selects RX1 yX1_size yX1_size, Cond.code yX1_size cX1_size 1 (some .int)]
def wsX7_bracket : List Cond := .code yX7_bracket cX7_bracket 3 (some .int) :: ((wsX7_bracket_r1 ++ wsX7_bracket_r2) ++ wsX70 ++ wsX10 ++ (vx_at0 RX7 201 "java/lang/IllegalArgumentException" ["java/lang/RuntimeException", "java/lang/Exception"]).filter goodWord ++ (vx_at0 RX7 102 "java/lang/IllegalStateException" ["java/lang/RuntimeException", "java/lang/Exception"]).filter goodWord)
def wsX7_dropBrackets : List Cond := .code yX7_dropBrackets cX7_dropBrackets 2 (some .int) :: ([.fieldLink RX7 26 "TaxEngine" "brackets" "LTaxEngine$Brackets;", .methodLink RX7 149 yX1_size, .instanceMethod yX1_size, .selects RX1 yX1_size yX1_size, .initialized RX1, .code yX1_size cX1_size 1 (some .int), .fieldLink RX1 18 "TaxEngine$Brackets" "count" "I", .methodLink RX7 153 yX1_clear, .instanceMethod yX1_clear, .selects RX1 yX1_clear yX1_clear, .code yX1_clear cX1_clear 1 none] ++ wsX70 ++ wsX10)
def wsX7_taxOn_r1 : List Cond := [Cond.constant RX7 117 (1000000000), Cond.fieldLink RX7 26 "TaxEngine" "brackets" "LTaxEngine$Brackets;", Cond.methodLink RX7 71 yX7_isWithin, Cond.static yX7_isWithin, Cond.initialized RX7, Cond.code yX7_isWithin cX7_isWithin 3 (some .boolean), Cond.methodLink RX7 82 yX7_checkArgument, Cond.static yX7_checkArgument, Cond.code yX7_checkArgument cX7_checkArgument 1 none, Cond.classLink RX7 199 "java/lang/IllegalArgumentException", Cond.initialized "java/lang/IllegalArgumentException", Cond.methodLink RX7 156 yX1_tax, Cond.instanceMethod yX1_tax, Cond.selects RX1 yX1_tax yX1_tax, Cond.initialized RX1, Cond.code yX1_tax cX1_tax 6 (some .int), Cond.fieldLink RX1 18 "TaxEngine$Brackets" "count" "I", Cond.fieldLink RX1 9 "TaxEngine$Brackets" "thresholds" "[I", Cond.methodLink RX1 38 Lib.Math.min.name, Cond.static Lib.Math.min.name, Cond.initialized "java/lang/Math", Cond.code Lib.Math.min.name Lib.Math.min.code 2 (some .int), Cond.methodLink RX1 44 Lib.Math.max.name, Cond.static Lib.Math.max.name]
def wsX7_taxOn_r2 : List Cond := [Cond.code Lib.Math.max.name Lib.Math.max.code 2 (some .int), Cond.fieldLink RX1 15 "TaxEngine$Brackets" "rates" "[I", Cond.static yX7_at, Cond.code yX7_at cX7_at 2 (some .int), Cond.static yX7_thousandths, Cond.code yX7_thousandths cX7_thousandths 2 (some .int), Cond.constantLong RX7 205 (1000)]
def wsX7_taxOn : List Cond := .code yX7_taxOn cX7_taxOn 2 (some .int) :: ((wsX7_taxOn_r1 ++ wsX7_taxOn_r2) ++ wsX70 ++ wsX10 ++ (vx_at0 RX7 201 "java/lang/IllegalArgumentException" ["java/lang/RuntimeException", "java/lang/Exception"]).filter goodWord)
def wsX7_carry_r1 : List Cond := [Cond.fieldLink RX7 33 "TaxEngine" "amounts" "LTaxEngine$Amounts;", Cond.constant RX7 103 (1000000), Cond.methodLink RX7 159 yX0_now, Cond.instanceMethod yX0_now, Cond.selects RX0 yX0_now yX0_now, Cond.initialized RX0, Cond.code yX0_now cX0_now 1 (some .int), Cond.fieldLink RX0 18 "TaxEngine$Amounts" "now" "I", Cond.methodLink RX7 71 yX7_isWithin, Cond.static yX7_isWithin, Cond.initialized RX7, Cond.code yX7_isWithin cX7_isWithin 3 (some .boolean), Cond.methodLink RX7 82 yX7_checkArgument, Cond.static yX7_checkArgument, Cond.code yX7_checkArgument cX7_checkArgument 1 none, Cond.classLink RX7 199 "java/lang/IllegalArgumentException", Cond.initialized "java/lang/IllegalArgumentException", Cond.methodLink RX7 162 yX0_size, Cond.instanceMethod yX0_size, Cond.selects RX0 yX0_size yX0_size, Cond.code yX0_size cX0_size 1 (some .int), Cond.fieldLink RX0 22 "TaxEngine$Amounts" "count" "I", Cond.methodLink RX7 118 yX7_checkState, Cond.static yX7_checkState]
def wsX7_carry_r2 : List Cond := [Cond.code yX7_checkState cX7_checkState 1 none, Cond.classLink RX7 100 "java/lang/IllegalStateException", Cond.initialized "java/lang/IllegalStateException", Cond.methodLink RX7 163 yX0_add, Cond.instanceMethod yX0_add, Cond.selects RX0 yX0_add yX0_add, Cond.code yX0_add cX0_add 4 none, Cond.fieldLink RX0 15 "TaxEngine$Amounts" "lasts" "[I", Cond.fieldLink RX0 9 "TaxEngine$Amounts" "lefts" "[I", Cond.static yX7_at, Cond.code yX7_at cX7_at 2 (some .int), Cond.methodLink RX0 33 yX0_move, Cond.instanceMethod yX0_move, Cond.selects RX0 yX0_move yX0_move, Cond.code yX0_move cX0_move 3 none, Cond.static yX7_put, Cond.code yX7_put cX7_put 3 none, Cond.methodLink RX7 166 yX0_total, Cond.instanceMethod yX0_total, Cond.selects RX0 yX0_total yX0_total, Cond.code yX0_total cX0_total 3 (some .int), Cond.methodLink RX0 29 yX0_leftAt, Cond.instanceMethod yX0_leftAt, Cond.selects RX0 yX0_leftAt yX0_leftAt]
def wsX7_carry_r3 : List Cond := [Cond.code yX0_leftAt cX0_leftAt 2 (some .int)]
def wsX7_carry : List Cond := .code yX7_carry cX7_carry 4 (some .int) :: ((wsX7_carry_r1 ++ (wsX7_carry_r2 ++ wsX7_carry_r3)) ++ wsX70 ++ wsX00 ++ (vx_at0 RX7 201 "java/lang/IllegalArgumentException" ["java/lang/RuntimeException", "java/lang/Exception"]).filter goodWord ++ (vx_at0 RX7 102 "java/lang/IllegalStateException" ["java/lang/RuntimeException", "java/lang/Exception"]).filter goodWord)
def wsX7_carried : List Cond := .code yX7_carried cX7_carried 1 (some .int) :: ([.fieldLink RX7 33 "TaxEngine" "amounts" "LTaxEngine$Amounts;", .methodLink RX7 166 yX0_total, .instanceMethod yX0_total, .selects RX0 yX0_total yX0_total, .initialized RX0, .code yX0_total cX0_total 3 (some .int), .fieldLink RX0 22 "TaxEngine$Amounts" "count" "I", .methodLink RX0 29 yX0_leftAt, .instanceMethod yX0_leftAt, .selects RX0 yX0_leftAt yX0_leftAt, .code yX0_leftAt cX0_leftAt 2 (some .int), .fieldLink RX0 9 "TaxEngine$Amounts" "lefts" "[I", .static yX7_at, .initialized RX7, .code yX7_at cX7_at 2 (some .int)] ++ wsX70 ++ wsX00)
def wsX7_carriedAt : List Cond := .code yX7_carriedAt cX7_carriedAt 2 (some .int) :: ([.fieldLink RX7 33 "TaxEngine" "amounts" "LTaxEngine$Amounts;", .methodLink RX7 162 yX0_size, .instanceMethod yX0_size, .selects RX0 yX0_size yX0_size, .initialized RX0, .code yX0_size cX0_size 1 (some .int), .fieldLink RX0 22 "TaxEngine$Amounts" "count" "I", .methodLink RX7 134 yX7_checkPlace, .static yX7_checkPlace, .initialized RX7, .code yX7_checkPlace cX7_checkPlace 1 none, .classLink RX7 196 "java/lang/IndexOutOfBoundsException", .initialized "java/lang/IndexOutOfBoundsException", .methodLink RX7 169 yX0_leftAt, .instanceMethod yX0_leftAt, .selects RX0 yX0_leftAt yX0_leftAt, .code yX0_leftAt cX0_leftAt 2 (some .int), .fieldLink RX0 9 "TaxEngine$Amounts" "lefts" "[I", .static yX7_at, .code yX7_at cX7_at 2 (some .int)] ++ wsX70 ++ wsX00 ++ (vx_at0 RX7 198 "java/lang/IndexOutOfBoundsException" ["java/lang/RuntimeException", "java/lang/Exception"]).filter goodWord)
def wsX7_year : List Cond := .code yX7_year cX7_year 1 (some .int) :: ([.fieldLink RX7 33 "TaxEngine" "amounts" "LTaxEngine$Amounts;", .methodLink RX7 159 yX0_now, .instanceMethod yX0_now, .selects RX0 yX0_now yX0_now, .initialized RX0, .code yX0_now cX0_now 1 (some .int), .fieldLink RX0 18 "TaxEngine$Amounts" "now" "I"] ++ wsX70 ++ wsX00)
def wsX7_closeYear_r1 : List Cond := [Cond.fieldLink RX7 49 "TaxEngine" "values" "LTaxEngine$Values;", Cond.fieldLink RX7 10 "TaxEngine" "sheet" "LTaxEngine$Sheet;", Cond.fieldLink RX7 33 "TaxEngine" "amounts" "LTaxEngine$Amounts;", Cond.methodLink RX7 111 yX6_workOut, Cond.instanceMethod yX6_workOut, Cond.selects RX6 yX6_workOut yX6_workOut, Cond.initialized RX6, Cond.code yX6_workOut cX6_workOut 5 none, Cond.fieldLink RX6 15 "TaxEngine$Values" "raised" "I", Cond.fieldLink RX6 23 "TaxEngine$Values" "plan" "LTaxEngine$Plan;", Cond.fieldLink RX6 19 "TaxEngine$Values" "sheet" "LTaxEngine$Sheet;", Cond.fieldLink RX6 9 "TaxEngine$Values" "numbers" "[I", Cond.methodLink RX6 39 yX4_lineAt, Cond.instanceMethod yX4_lineAt, Cond.selects RX4 yX4_lineAt yX4_lineAt, Cond.initialized RX4, Cond.code yX4_lineAt cX4_lineAt 2 (some .int), Cond.fieldLink RX4 18 "TaxEngine$Plan" "order" "[I", Cond.static yX7_at, Cond.initialized RX7, Cond.code yX7_at cX7_at 2 (some .int), Cond.methodLink RX6 45 yX5_kind, Cond.instanceMethod yX5_kind, Cond.selects RX5 yX5_kind yX5_kind]
def wsX7_closeYear_r2 : List Cond := [Cond.initialized RX5, Cond.code yX5_kind cX5_kind 2 (some .int), Cond.fieldLink RX5 9 "TaxEngine$Sheet" "kinds" "[I", Cond.methodLink RX6 50 yX4_isCircular, Cond.instanceMethod yX4_isCircular, Cond.selects RX4 yX4_isCircular yX4_isCircular, Cond.code yX4_isCircular cX4_isCircular 2 (some .boolean), Cond.methodLink RX4 59 yX4_reach, Cond.instanceMethod yX4_reach, Cond.selects RX4 yX4_reach yX4_reach, Cond.code yX4_reach cX4_reach 2 (some .int), Cond.fieldLink RX4 9 "TaxEngine$Plan" "reach" "[I", Cond.static yX7_has, Cond.code yX7_has cX7_has 2 (some .boolean), Cond.methodLink RX7 202 yX7_bit, Cond.static yX7_bit, Cond.code yX7_bit cX7_bit 1 (some .int), Cond.methodLink RX6 54 yX6_greatest, Cond.instanceMethod yX6_greatest, Cond.selects RX6 yX6_greatest yX6_greatest, Cond.code yX6_greatest cX6_greatest 7 (some .int), Cond.methodLink RX6 72 yX5_first, Cond.instanceMethod yX5_first, Cond.selects RX5 yX5_first yX5_first]
def wsX7_closeYear_r3 : List Cond := [Cond.code yX5_first cX5_first 2 (some .int), Cond.fieldLink RX5 15 "TaxEngine$Sheet" "firsts" "[I", Cond.methodLink RX6 75 yX6_of, Cond.instanceMethod yX6_of, Cond.selects RX6 yX6_of yX6_of, Cond.code yX6_of cX6_of 2 (some .int), Cond.methodLink RX6 78 yX6_suppose, Cond.instanceMethod yX6_suppose, Cond.selects RX6 yX6_suppose yX6_suppose, Cond.code yX6_suppose cX6_suppose 7 none, Cond.static yX7_put, Cond.code yX7_put cX7_put 3 none, Cond.methodLink RX6 64 yX4_groupOf, Cond.instanceMethod yX4_groupOf, Cond.selects RX4 yX4_groupOf yX4_groupOf, Cond.code yX4_groupOf cX4_groupOf 2 (some .int), Cond.fieldLink RX4 15 "TaxEngine$Plan" "groups" "[I", Cond.methodLink RX6 67 yJ6_bitCount_0f7a4, Cond.static yJ6_bitCount_0f7a4, Cond.initialized RJ6, Cond.code yJ6_bitCount_0f7a4 cJ6_bitCount_0f7a4 1 (some .int), Cond.constant RJ6 265 (1431655765), Cond.constant RJ6 266 (858993459), Cond.constant RJ6 267 (252645135)]
def wsX7_closeYear_r4 : List Cond := [Cond.methodLink RX6 57 yX6_plain, Cond.instanceMethod yX6_plain, Cond.selects RX6 yX6_plain yX6_plain, Cond.code yX6_plain cX6_plain 4 (some .int), Cond.constant RX6 85 (1000000000), Cond.methodLink RX6 86 Lib.Math.min.name, Cond.static Lib.Math.min.name, Cond.initialized "java/lang/Math", Cond.code Lib.Math.min.name Lib.Math.min.code 2 (some .int), Cond.methodLink RX6 92 Lib.Math.max.name, Cond.static Lib.Math.max.name, Cond.code Lib.Math.max.name Lib.Math.max.code 2 (some .int), Cond.fieldLink RX6 27 "TaxEngine$Values" "brackets" "LTaxEngine$Brackets;", Cond.fieldLink RX6 31 "TaxEngine$Values" "amounts" "LTaxEngine$Amounts;", Cond.methodLink RX6 82 yX5_second, Cond.instanceMethod yX5_second, Cond.selects RX5 yX5_second yX5_second, Cond.code yX5_second cX5_second 2 (some .int), Cond.fieldLink RX5 18 "TaxEngine$Sheet" "seconds" "[I", Cond.static yX7_thousandths, Cond.code yX7_thousandths cX7_thousandths 2 (some .int), Cond.constantLong RX7 205 (1000), Cond.methodLink RX6 98 yX1_tax, Cond.instanceMethod yX1_tax]
def wsX7_closeYear_r5 : List Cond := [Cond.selects RX1 yX1_tax yX1_tax, Cond.initialized RX1, Cond.code yX1_tax cX1_tax 6 (some .int), Cond.fieldLink RX1 18 "TaxEngine$Brackets" "count" "I", Cond.fieldLink RX1 9 "TaxEngine$Brackets" "thresholds" "[I", Cond.methodLink RX1 38 Lib.Math.min.name, Cond.methodLink RX1 44 Lib.Math.max.name, Cond.fieldLink RX1 15 "TaxEngine$Brackets" "rates" "[I", Cond.methodLink RX6 103 yX0_total, Cond.instanceMethod yX0_total, Cond.selects RX0 yX0_total yX0_total, Cond.initialized RX0, Cond.code yX0_total cX0_total 3 (some .int), Cond.fieldLink RX0 22 "TaxEngine$Amounts" "count" "I", Cond.methodLink RX0 29 yX0_leftAt, Cond.instanceMethod yX0_leftAt, Cond.selects RX0 yX0_leftAt yX0_leftAt, Cond.code yX0_leftAt cX0_leftAt 2 (some .int), Cond.fieldLink RX0 9 "TaxEngine$Amounts" "lefts" "[I", Cond.methodLink RX6 109 yX5_given, Cond.instanceMethod yX5_given, Cond.selects RX5 yX5_given yX5_given, Cond.code yX5_given cX5_given 2 (some .int), Cond.fieldLink RX5 21 "TaxEngine$Sheet" "answers" "[I"]
def wsX7_closeYear_r6 : List Cond := [Cond.methodLink RX7 86 yX5_kind, Cond.methodLink RX7 114 yX6_of, Cond.methodLink RX7 172 yX0_take, Cond.instanceMethod yX0_take, Cond.selects RX0 yX0_take yX0_take, Cond.code yX0_take cX0_take 5 (some .int), Cond.methodLink RX0 41 Lib.Math.min.name, Cond.methodLink RX7 175 yX0_endYear, Cond.instanceMethod yX0_endYear, Cond.selects RX0 yX0_endYear yX0_endYear, Cond.code yX0_endYear cX0_endYear 3 none, Cond.fieldLink RX0 15 "TaxEngine$Amounts" "lasts" "[I", Cond.fieldLink RX0 18 "TaxEngine$Amounts" "now" "I", Cond.methodLink RX0 33 yX0_move, Cond.instanceMethod yX0_move, Cond.selects RX0 yX0_move yX0_move, Cond.code yX0_move cX0_move 3 none]
def wsX7_closeYear : List Cond := .code yX7_closeYear cX7_closeYear 3 (some .int) :: ((wsX7_closeYear_r1 ++ (wsX7_closeYear_r2 ++ (wsX7_closeYear_r3 ++ (wsX7_closeYear_r4 ++ (wsX7_closeYear_r5 ++ wsX7_closeYear_r6))))) ++ wsX70 ++ wsX60 ++ wsX40 ++ wsX50 ++ wsX10 ++ wsX00)
def wsX7_addCredit_r1 : List Cond := [Cond.constant RX7 103 (1000000), Cond.fieldLink RX7 40 "TaxEngine" "credits" "LTaxEngine$Credits;", Cond.methodLink RX7 71 yX7_isWithin, Cond.static yX7_isWithin, Cond.initialized RX7, Cond.code yX7_isWithin cX7_isWithin 3 (some .boolean), Cond.methodLink RX7 82 yX7_checkArgument, Cond.static yX7_checkArgument, Cond.code yX7_checkArgument cX7_checkArgument 1 none, Cond.classLink RX7 199 "java/lang/IllegalArgumentException", Cond.initialized "java/lang/IllegalArgumentException", Cond.methodLink RX7 178 yX2_size, Cond.instanceMethod yX2_size, Cond.selects RX2 yX2_size yX2_size, Cond.initialized RX2, Cond.code yX2_size cX2_size 1 (some .int), Cond.fieldLink RX2 24 "TaxEngine$Credits" "count" "I", Cond.methodLink RX7 118 yX7_checkState, Cond.static yX7_checkState, Cond.code yX7_checkState cX7_checkState 1 none, Cond.classLink RX7 100 "java/lang/IllegalStateException", Cond.initialized "java/lang/IllegalStateException", Cond.methodLink RX7 179 yX2_add, Cond.instanceMethod yX2_add]
def wsX7_addCredit_r2 : List Cond := [Cond.selects RX2 yX2_add yX2_add, Cond.code yX2_add cX2_add 3 none, Cond.fieldLink RX2 9 "TaxEngine$Credits" "sizes" "[I", Cond.fieldLink RX2 15 "TaxEngine$Credits" "worths" "[I", Cond.static yX7_put, Cond.code yX7_put cX7_put 3 none]
def wsX7_addCredit : List Cond := .code yX7_addCredit cX7_addCredit 3 (some .int) :: ((wsX7_addCredit_r1 ++ wsX7_addCredit_r2) ++ wsX70 ++ wsX20 ++ (vx_at0 RX7 201 "java/lang/IllegalArgumentException" ["java/lang/RuntimeException", "java/lang/Exception"]).filter goodWord ++ (vx_at0 RX7 102 "java/lang/IllegalStateException" ["java/lang/RuntimeException", "java/lang/Exception"]).filter goodWord)
def wsX7_dropCredit : List Cond := .code yX7_dropCredit cX7_dropCredit 1 (some .int) :: ([.fieldLink RX7 40 "TaxEngine" "credits" "LTaxEngine$Credits;", .methodLink RX7 178 yX2_size, .instanceMethod yX2_size, .selects RX2 yX2_size yX2_size, .initialized RX2, .code yX2_size cX2_size 1 (some .int), .fieldLink RX2 24 "TaxEngine$Credits" "count" "I", .methodLink RX7 118 yX7_checkState, .static yX7_checkState, .initialized RX7, .code yX7_checkState cX7_checkState 1 none, .classLink RX7 100 "java/lang/IllegalStateException", .initialized "java/lang/IllegalStateException", .methodLink RX7 180 yX2_dropLast, .instanceMethod yX2_dropLast, .selects RX2 yX2_dropLast yX2_dropLast, .code yX2_dropLast cX2_dropLast 1 none] ++ wsX70 ++ wsX20 ++ (vx_at0 RX7 102 "java/lang/IllegalStateException" ["java/lang/RuntimeException", "java/lang/Exception"]).filter goodWord)
def wsX7_creditAt_r1 : List Cond := [Cond.fieldLink RX7 40 "TaxEngine" "credits" "LTaxEngine$Credits;", Cond.fieldLink RX7 49 "TaxEngine" "values" "LTaxEngine$Values;", Cond.methodLink RX7 67 yX7_checkLine, Cond.static yX7_checkLine, Cond.initialized RX7, Cond.code yX7_checkLine cX7_checkLine 1 none, Cond.methodLink RX7 71 yX7_isWithin, Cond.static yX7_isWithin, Cond.code yX7_isWithin cX7_isWithin 3 (some .boolean), Cond.methodLink RX7 134 yX7_checkPlace, Cond.static yX7_checkPlace, Cond.code yX7_checkPlace cX7_checkPlace 1 none, Cond.classLink RX7 196 "java/lang/IndexOutOfBoundsException", Cond.initialized "java/lang/IndexOutOfBoundsException", Cond.methodLink RX7 178 yX2_size, Cond.instanceMethod yX2_size, Cond.selects RX2 yX2_size yX2_size, Cond.initialized RX2, Cond.code yX2_size cX2_size 1 (some .int), Cond.fieldLink RX2 24 "TaxEngine$Credits" "count" "I", Cond.methodLink RX7 111 yX6_workOut, Cond.instanceMethod yX6_workOut, Cond.selects RX6 yX6_workOut yX6_workOut, Cond.initialized RX6]
def wsX7_creditAt_r2 : List Cond := [Cond.code yX6_workOut cX6_workOut 5 none, Cond.fieldLink RX6 15 "TaxEngine$Values" "raised" "I", Cond.fieldLink RX6 23 "TaxEngine$Values" "plan" "LTaxEngine$Plan;", Cond.fieldLink RX6 19 "TaxEngine$Values" "sheet" "LTaxEngine$Sheet;", Cond.fieldLink RX6 9 "TaxEngine$Values" "numbers" "[I", Cond.methodLink RX6 39 yX4_lineAt, Cond.instanceMethod yX4_lineAt, Cond.selects RX4 yX4_lineAt yX4_lineAt, Cond.initialized RX4, Cond.code yX4_lineAt cX4_lineAt 2 (some .int), Cond.fieldLink RX4 18 "TaxEngine$Plan" "order" "[I", Cond.static yX7_at, Cond.code yX7_at cX7_at 2 (some .int), Cond.methodLink RX6 45 yX5_kind, Cond.instanceMethod yX5_kind, Cond.selects RX5 yX5_kind yX5_kind, Cond.initialized RX5, Cond.code yX5_kind cX5_kind 2 (some .int), Cond.fieldLink RX5 9 "TaxEngine$Sheet" "kinds" "[I", Cond.methodLink RX6 50 yX4_isCircular, Cond.instanceMethod yX4_isCircular, Cond.selects RX4 yX4_isCircular yX4_isCircular, Cond.code yX4_isCircular cX4_isCircular 2 (some .boolean), Cond.methodLink RX4 59 yX4_reach]
def wsX7_creditAt_r3 : List Cond := [Cond.instanceMethod yX4_reach, Cond.selects RX4 yX4_reach yX4_reach, Cond.code yX4_reach cX4_reach 2 (some .int), Cond.fieldLink RX4 9 "TaxEngine$Plan" "reach" "[I", Cond.static yX7_has, Cond.code yX7_has cX7_has 2 (some .boolean), Cond.methodLink RX7 202 yX7_bit, Cond.static yX7_bit, Cond.code yX7_bit cX7_bit 1 (some .int), Cond.methodLink RX6 54 yX6_greatest, Cond.instanceMethod yX6_greatest, Cond.selects RX6 yX6_greatest yX6_greatest, Cond.code yX6_greatest cX6_greatest 7 (some .int), Cond.methodLink RX6 72 yX5_first, Cond.instanceMethod yX5_first, Cond.selects RX5 yX5_first yX5_first, Cond.code yX5_first cX5_first 2 (some .int), Cond.fieldLink RX5 15 "TaxEngine$Sheet" "firsts" "[I", Cond.methodLink RX6 75 yX6_of, Cond.instanceMethod yX6_of, Cond.selects RX6 yX6_of yX6_of, Cond.code yX6_of cX6_of 2 (some .int), Cond.methodLink RX6 78 yX6_suppose, Cond.instanceMethod yX6_suppose]
def wsX7_creditAt_r4 : List Cond := [Cond.selects RX6 yX6_suppose yX6_suppose, Cond.code yX6_suppose cX6_suppose 7 none, Cond.static yX7_put, Cond.code yX7_put cX7_put 3 none, Cond.methodLink RX6 64 yX4_groupOf, Cond.instanceMethod yX4_groupOf, Cond.selects RX4 yX4_groupOf yX4_groupOf, Cond.code yX4_groupOf cX4_groupOf 2 (some .int), Cond.fieldLink RX4 15 "TaxEngine$Plan" "groups" "[I", Cond.methodLink RX6 67 yJ6_bitCount_0f7a4, Cond.static yJ6_bitCount_0f7a4, Cond.initialized RJ6, Cond.code yJ6_bitCount_0f7a4 cJ6_bitCount_0f7a4 1 (some .int), Cond.constant RJ6 265 (1431655765), Cond.constant RJ6 266 (858993459), Cond.constant RJ6 267 (252645135), Cond.methodLink RX6 57 yX6_plain, Cond.instanceMethod yX6_plain, Cond.selects RX6 yX6_plain yX6_plain, Cond.code yX6_plain cX6_plain 4 (some .int), Cond.constant RX6 85 (1000000000), Cond.methodLink RX6 86 Lib.Math.min.name, Cond.static Lib.Math.min.name, Cond.initialized "java/lang/Math"]
def wsX7_creditAt_r5 : List Cond := [Cond.code Lib.Math.min.name Lib.Math.min.code 2 (some .int), Cond.methodLink RX6 92 Lib.Math.max.name, Cond.static Lib.Math.max.name, Cond.code Lib.Math.max.name Lib.Math.max.code 2 (some .int), Cond.fieldLink RX6 27 "TaxEngine$Values" "brackets" "LTaxEngine$Brackets;", Cond.fieldLink RX6 31 "TaxEngine$Values" "amounts" "LTaxEngine$Amounts;", Cond.methodLink RX6 82 yX5_second, Cond.instanceMethod yX5_second, Cond.selects RX5 yX5_second yX5_second, Cond.code yX5_second cX5_second 2 (some .int), Cond.fieldLink RX5 18 "TaxEngine$Sheet" "seconds" "[I", Cond.static yX7_thousandths, Cond.code yX7_thousandths cX7_thousandths 2 (some .int), Cond.constantLong RX7 205 (1000), Cond.methodLink RX6 98 yX1_tax, Cond.instanceMethod yX1_tax, Cond.selects RX1 yX1_tax yX1_tax, Cond.initialized RX1, Cond.code yX1_tax cX1_tax 6 (some .int), Cond.fieldLink RX1 18 "TaxEngine$Brackets" "count" "I", Cond.fieldLink RX1 9 "TaxEngine$Brackets" "thresholds" "[I", Cond.methodLink RX1 38 Lib.Math.min.name, Cond.methodLink RX1 44 Lib.Math.max.name, Cond.fieldLink RX1 15 "TaxEngine$Brackets" "rates" "[I"]
def wsX7_creditAt_r6 : List Cond := [Cond.methodLink RX6 103 yX0_total, Cond.instanceMethod yX0_total, Cond.selects RX0 yX0_total yX0_total, Cond.initialized RX0, Cond.code yX0_total cX0_total 3 (some .int), Cond.fieldLink RX0 22 "TaxEngine$Amounts" "count" "I", Cond.methodLink RX0 29 yX0_leftAt, Cond.instanceMethod yX0_leftAt, Cond.selects RX0 yX0_leftAt yX0_leftAt, Cond.code yX0_leftAt cX0_leftAt 2 (some .int), Cond.fieldLink RX0 9 "TaxEngine$Amounts" "lefts" "[I", Cond.methodLink RX6 109 yX5_given, Cond.instanceMethod yX5_given, Cond.selects RX5 yX5_given yX5_given, Cond.code yX5_given cX5_given 2 (some .int), Cond.fieldLink RX5 21 "TaxEngine$Sheet" "answers" "[I", Cond.methodLink RX7 114 yX6_of, Cond.methodLink RX7 183 yX2_findBest, Cond.instanceMethod yX2_findBest, Cond.selects RX2 yX2_findBest yX2_findBest, Cond.code yX2_findBest cX2_findBest 6 (some .int), Cond.fieldLink RX2 18 "TaxEngine$Credits" "order" "[I", Cond.methodLink RX2 36 yX2_sumInOrder, Cond.instanceMethod yX2_sumInOrder]
def wsX7_creditAt_r7 : List Cond := [Cond.selects RX2 yX2_sumInOrder yX2_sumInOrder, Cond.code yX2_sumInOrder cX2_sumInOrder 7 (some .int), Cond.fieldLink RX2 9 "TaxEngine$Credits" "sizes" "[I", Cond.methodLink RX2 47 Lib.Math.min.name, Cond.fieldLink RX2 15 "TaxEngine$Credits" "worths" "[I", Cond.methodLink RX2 40 yX2_keepOrder, Cond.instanceMethod yX2_keepOrder, Cond.selects RX2 yX2_keepOrder yX2_keepOrder, Cond.code yX2_keepOrder cX2_keepOrder 2 none, Cond.fieldLink RX2 21 "TaxEngine$Credits" "best" "[I", Cond.methodLink RX2 43 yX2_toNextOrder, Cond.instanceMethod yX2_toNextOrder, Cond.selects RX2 yX2_toNextOrder yX2_toNextOrder, Cond.code yX2_toNextOrder cX2_toNextOrder 5 (some .boolean), Cond.methodLink RX2 56 yX2_swap, Cond.instanceMethod yX2_swap, Cond.selects RX2 yX2_swap yX2_swap, Cond.code yX2_swap cX2_swap 4 none, Cond.methodLink RX7 186 yX2_bestAt, Cond.instanceMethod yX2_bestAt, Cond.selects RX2 yX2_bestAt yX2_bestAt, Cond.code yX2_bestAt cX2_bestAt 2 (some .int)]
def wsX7_creditAt : List Cond := .code yX7_creditAt cX7_creditAt 3 (some .int) :: ((wsX7_creditAt_r1 ++ (wsX7_creditAt_r2 ++ (wsX7_creditAt_r3 ++ (wsX7_creditAt_r4 ++ (wsX7_creditAt_r5 ++ (wsX7_creditAt_r6 ++ wsX7_creditAt_r7)))))) ++ wsX70 ++ wsX20 ++ wsX60 ++ wsX40 ++ wsX50 ++ wsX10 ++ wsX00 ++ (vx_at0 RX7 198 "java/lang/IndexOutOfBoundsException" ["java/lang/RuntimeException", "java/lang/Exception"]).filter goodWord)
def wsX7_afterCredits_r1 : List Cond := [Cond.fieldLink RX7 49 "TaxEngine" "values" "LTaxEngine$Values;", Cond.fieldLink RX7 40 "TaxEngine" "credits" "LTaxEngine$Credits;", Cond.methodLink RX7 190 Lib.Math.min.name, Cond.static Lib.Math.min.name, Cond.initialized "java/lang/Math", Cond.code Lib.Math.min.name Lib.Math.min.code 2 (some .int), Cond.methodLink RX7 67 yX7_checkLine, Cond.static yX7_checkLine, Cond.initialized RX7, Cond.code yX7_checkLine cX7_checkLine 1 none, Cond.methodLink RX7 71 yX7_isWithin, Cond.static yX7_isWithin, Cond.code yX7_isWithin cX7_isWithin 3 (some .boolean), Cond.methodLink RX7 134 yX7_checkPlace, Cond.static yX7_checkPlace, Cond.code yX7_checkPlace cX7_checkPlace 1 none, Cond.classLink RX7 196 "java/lang/IndexOutOfBoundsException", Cond.initialized "java/lang/IndexOutOfBoundsException", Cond.methodLink RX7 111 yX6_workOut, Cond.instanceMethod yX6_workOut, Cond.selects RX6 yX6_workOut yX6_workOut, Cond.initialized RX6, Cond.code yX6_workOut cX6_workOut 5 none, Cond.fieldLink RX6 15 "TaxEngine$Values" "raised" "I"]
def wsX7_afterCredits_r2 : List Cond := [Cond.fieldLink RX6 23 "TaxEngine$Values" "plan" "LTaxEngine$Plan;", Cond.fieldLink RX6 19 "TaxEngine$Values" "sheet" "LTaxEngine$Sheet;", Cond.fieldLink RX6 9 "TaxEngine$Values" "numbers" "[I", Cond.methodLink RX6 39 yX4_lineAt, Cond.instanceMethod yX4_lineAt, Cond.selects RX4 yX4_lineAt yX4_lineAt, Cond.initialized RX4, Cond.code yX4_lineAt cX4_lineAt 2 (some .int), Cond.fieldLink RX4 18 "TaxEngine$Plan" "order" "[I", Cond.static yX7_at, Cond.code yX7_at cX7_at 2 (some .int), Cond.methodLink RX6 45 yX5_kind, Cond.instanceMethod yX5_kind, Cond.selects RX5 yX5_kind yX5_kind, Cond.initialized RX5, Cond.code yX5_kind cX5_kind 2 (some .int), Cond.fieldLink RX5 9 "TaxEngine$Sheet" "kinds" "[I", Cond.methodLink RX6 50 yX4_isCircular, Cond.instanceMethod yX4_isCircular, Cond.selects RX4 yX4_isCircular yX4_isCircular, Cond.code yX4_isCircular cX4_isCircular 2 (some .boolean), Cond.methodLink RX4 59 yX4_reach, Cond.instanceMethod yX4_reach, Cond.selects RX4 yX4_reach yX4_reach]
def wsX7_afterCredits_r3 : List Cond := [Cond.code yX4_reach cX4_reach 2 (some .int), Cond.fieldLink RX4 9 "TaxEngine$Plan" "reach" "[I", Cond.static yX7_has, Cond.code yX7_has cX7_has 2 (some .boolean), Cond.methodLink RX7 202 yX7_bit, Cond.static yX7_bit, Cond.code yX7_bit cX7_bit 1 (some .int), Cond.methodLink RX6 54 yX6_greatest, Cond.instanceMethod yX6_greatest, Cond.selects RX6 yX6_greatest yX6_greatest, Cond.code yX6_greatest cX6_greatest 7 (some .int), Cond.methodLink RX6 72 yX5_first, Cond.instanceMethod yX5_first, Cond.selects RX5 yX5_first yX5_first, Cond.code yX5_first cX5_first 2 (some .int), Cond.fieldLink RX5 15 "TaxEngine$Sheet" "firsts" "[I", Cond.methodLink RX6 75 yX6_of, Cond.instanceMethod yX6_of, Cond.selects RX6 yX6_of yX6_of, Cond.code yX6_of cX6_of 2 (some .int), Cond.methodLink RX6 78 yX6_suppose, Cond.instanceMethod yX6_suppose, Cond.selects RX6 yX6_suppose yX6_suppose, Cond.code yX6_suppose cX6_suppose 7 none]
def wsX7_afterCredits_r4 : List Cond := [Cond.static yX7_put, Cond.code yX7_put cX7_put 3 none, Cond.methodLink RX6 64 yX4_groupOf, Cond.instanceMethod yX4_groupOf, Cond.selects RX4 yX4_groupOf yX4_groupOf, Cond.code yX4_groupOf cX4_groupOf 2 (some .int), Cond.fieldLink RX4 15 "TaxEngine$Plan" "groups" "[I", Cond.methodLink RX6 67 yJ6_bitCount_0f7a4, Cond.static yJ6_bitCount_0f7a4, Cond.initialized RJ6, Cond.code yJ6_bitCount_0f7a4 cJ6_bitCount_0f7a4 1 (some .int), Cond.constant RJ6 265 (1431655765), Cond.constant RJ6 266 (858993459), Cond.constant RJ6 267 (252645135), Cond.methodLink RX6 57 yX6_plain, Cond.instanceMethod yX6_plain, Cond.selects RX6 yX6_plain yX6_plain, Cond.code yX6_plain cX6_plain 4 (some .int), Cond.constant RX6 85 (1000000000), Cond.methodLink RX6 86 Lib.Math.min.name, Cond.methodLink RX6 92 Lib.Math.max.name, Cond.static Lib.Math.max.name, Cond.code Lib.Math.max.name Lib.Math.max.code 2 (some .int), Cond.fieldLink RX6 27 "TaxEngine$Values" "brackets" "LTaxEngine$Brackets;"]
def wsX7_afterCredits_r5 : List Cond := [Cond.fieldLink RX6 31 "TaxEngine$Values" "amounts" "LTaxEngine$Amounts;", Cond.methodLink RX6 82 yX5_second, Cond.instanceMethod yX5_second, Cond.selects RX5 yX5_second yX5_second, Cond.code yX5_second cX5_second 2 (some .int), Cond.fieldLink RX5 18 "TaxEngine$Sheet" "seconds" "[I", Cond.static yX7_thousandths, Cond.code yX7_thousandths cX7_thousandths 2 (some .int), Cond.constantLong RX7 205 (1000), Cond.methodLink RX6 98 yX1_tax, Cond.instanceMethod yX1_tax, Cond.selects RX1 yX1_tax yX1_tax, Cond.initialized RX1, Cond.code yX1_tax cX1_tax 6 (some .int), Cond.fieldLink RX1 18 "TaxEngine$Brackets" "count" "I", Cond.fieldLink RX1 9 "TaxEngine$Brackets" "thresholds" "[I", Cond.methodLink RX1 38 Lib.Math.min.name, Cond.methodLink RX1 44 Lib.Math.max.name, Cond.fieldLink RX1 15 "TaxEngine$Brackets" "rates" "[I", Cond.methodLink RX6 103 yX0_total, Cond.instanceMethod yX0_total, Cond.selects RX0 yX0_total yX0_total, Cond.initialized RX0, Cond.code yX0_total cX0_total 3 (some .int)]
def wsX7_afterCredits_r6 : List Cond := [Cond.fieldLink RX0 22 "TaxEngine$Amounts" "count" "I", Cond.methodLink RX0 29 yX0_leftAt, Cond.instanceMethod yX0_leftAt, Cond.selects RX0 yX0_leftAt yX0_leftAt, Cond.code yX0_leftAt cX0_leftAt 2 (some .int), Cond.fieldLink RX0 9 "TaxEngine$Amounts" "lefts" "[I", Cond.methodLink RX6 109 yX5_given, Cond.instanceMethod yX5_given, Cond.selects RX5 yX5_given yX5_given, Cond.code yX5_given cX5_given 2 (some .int), Cond.fieldLink RX5 21 "TaxEngine$Sheet" "answers" "[I", Cond.methodLink RX7 114 yX6_of, Cond.methodLink RX7 189 yX2_total, Cond.instanceMethod yX2_total, Cond.selects RX2 yX2_total yX2_total, Cond.initialized RX2, Cond.code yX2_total cX2_total 3 (some .int), Cond.fieldLink RX2 24 "TaxEngine$Credits" "count" "I", Cond.fieldLink RX2 9 "TaxEngine$Credits" "sizes" "[I"]
def wsX7_afterCredits : List Cond := .code yX7_afterCredits cX7_afterCredits 3 (some .int) :: ((wsX7_afterCredits_r1 ++ (wsX7_afterCredits_r2 ++ (wsX7_afterCredits_r3 ++ (wsX7_afterCredits_r4 ++ (wsX7_afterCredits_r5 ++ wsX7_afterCredits_r6))))) ++ wsX70 ++ wsX60 ++ wsX40 ++ wsX50 ++ wsX10 ++ wsX00 ++ wsX20 ++ (vx_at0 RX7 198 "java/lang/IndexOutOfBoundsException" ["java/lang/RuntimeException", "java/lang/Exception"]).filter goodWord)
def wsX7_bestSum_r1 : List Cond := [Cond.fieldLink RX7 49 "TaxEngine" "values" "LTaxEngine$Values;", Cond.fieldLink RX7 40 "TaxEngine" "credits" "LTaxEngine$Credits;", Cond.methodLink RX7 67 yX7_checkLine, Cond.static yX7_checkLine, Cond.initialized RX7, Cond.code yX7_checkLine cX7_checkLine 1 none, Cond.methodLink RX7 71 yX7_isWithin, Cond.static yX7_isWithin, Cond.code yX7_isWithin cX7_isWithin 3 (some .boolean), Cond.methodLink RX7 134 yX7_checkPlace, Cond.static yX7_checkPlace, Cond.code yX7_checkPlace cX7_checkPlace 1 none, Cond.classLink RX7 196 "java/lang/IndexOutOfBoundsException", Cond.initialized "java/lang/IndexOutOfBoundsException", Cond.methodLink RX7 111 yX6_workOut, Cond.instanceMethod yX6_workOut, Cond.selects RX6 yX6_workOut yX6_workOut, Cond.initialized RX6, Cond.code yX6_workOut cX6_workOut 5 none, Cond.fieldLink RX6 15 "TaxEngine$Values" "raised" "I", Cond.fieldLink RX6 23 "TaxEngine$Values" "plan" "LTaxEngine$Plan;", Cond.fieldLink RX6 19 "TaxEngine$Values" "sheet" "LTaxEngine$Sheet;", Cond.fieldLink RX6 9 "TaxEngine$Values" "numbers" "[I", Cond.methodLink RX6 39 yX4_lineAt]
def wsX7_bestSum_r2 : List Cond := [Cond.instanceMethod yX4_lineAt, Cond.selects RX4 yX4_lineAt yX4_lineAt, Cond.initialized RX4, Cond.code yX4_lineAt cX4_lineAt 2 (some .int), Cond.fieldLink RX4 18 "TaxEngine$Plan" "order" "[I", Cond.static yX7_at, Cond.code yX7_at cX7_at 2 (some .int), Cond.methodLink RX6 45 yX5_kind, Cond.instanceMethod yX5_kind, Cond.selects RX5 yX5_kind yX5_kind, Cond.initialized RX5, Cond.code yX5_kind cX5_kind 2 (some .int), Cond.fieldLink RX5 9 "TaxEngine$Sheet" "kinds" "[I", Cond.methodLink RX6 50 yX4_isCircular, Cond.instanceMethod yX4_isCircular, Cond.selects RX4 yX4_isCircular yX4_isCircular, Cond.code yX4_isCircular cX4_isCircular 2 (some .boolean), Cond.methodLink RX4 59 yX4_reach, Cond.instanceMethod yX4_reach, Cond.selects RX4 yX4_reach yX4_reach, Cond.code yX4_reach cX4_reach 2 (some .int), Cond.fieldLink RX4 9 "TaxEngine$Plan" "reach" "[I", Cond.static yX7_has, Cond.code yX7_has cX7_has 2 (some .boolean)]
def wsX7_bestSum_r3 : List Cond := [Cond.methodLink RX7 202 yX7_bit, Cond.static yX7_bit, Cond.code yX7_bit cX7_bit 1 (some .int), Cond.methodLink RX6 54 yX6_greatest, Cond.instanceMethod yX6_greatest, Cond.selects RX6 yX6_greatest yX6_greatest, Cond.code yX6_greatest cX6_greatest 7 (some .int), Cond.methodLink RX6 72 yX5_first, Cond.instanceMethod yX5_first, Cond.selects RX5 yX5_first yX5_first, Cond.code yX5_first cX5_first 2 (some .int), Cond.fieldLink RX5 15 "TaxEngine$Sheet" "firsts" "[I", Cond.methodLink RX6 75 yX6_of, Cond.instanceMethod yX6_of, Cond.selects RX6 yX6_of yX6_of, Cond.code yX6_of cX6_of 2 (some .int), Cond.methodLink RX6 78 yX6_suppose, Cond.instanceMethod yX6_suppose, Cond.selects RX6 yX6_suppose yX6_suppose, Cond.code yX6_suppose cX6_suppose 7 none, Cond.static yX7_put, Cond.code yX7_put cX7_put 3 none, Cond.methodLink RX6 64 yX4_groupOf, Cond.instanceMethod yX4_groupOf]
def wsX7_bestSum_r4 : List Cond := [Cond.selects RX4 yX4_groupOf yX4_groupOf, Cond.code yX4_groupOf cX4_groupOf 2 (some .int), Cond.fieldLink RX4 15 "TaxEngine$Plan" "groups" "[I", Cond.methodLink RX6 67 yJ6_bitCount_0f7a4, Cond.static yJ6_bitCount_0f7a4, Cond.initialized RJ6, Cond.code yJ6_bitCount_0f7a4 cJ6_bitCount_0f7a4 1 (some .int), Cond.constant RJ6 265 (1431655765), Cond.constant RJ6 266 (858993459), Cond.constant RJ6 267 (252645135), Cond.methodLink RX6 57 yX6_plain, Cond.instanceMethod yX6_plain, Cond.selects RX6 yX6_plain yX6_plain, Cond.code yX6_plain cX6_plain 4 (some .int), Cond.constant RX6 85 (1000000000), Cond.methodLink RX6 86 Lib.Math.min.name, Cond.static Lib.Math.min.name, Cond.initialized "java/lang/Math", Cond.code Lib.Math.min.name Lib.Math.min.code 2 (some .int), Cond.methodLink RX6 92 Lib.Math.max.name, Cond.static Lib.Math.max.name, Cond.code Lib.Math.max.name Lib.Math.max.code 2 (some .int), Cond.fieldLink RX6 27 "TaxEngine$Values" "brackets" "LTaxEngine$Brackets;", Cond.fieldLink RX6 31 "TaxEngine$Values" "amounts" "LTaxEngine$Amounts;"]
def wsX7_bestSum_r5 : List Cond := [Cond.methodLink RX6 82 yX5_second, Cond.instanceMethod yX5_second, Cond.selects RX5 yX5_second yX5_second, Cond.code yX5_second cX5_second 2 (some .int), Cond.fieldLink RX5 18 "TaxEngine$Sheet" "seconds" "[I", Cond.static yX7_thousandths, Cond.code yX7_thousandths cX7_thousandths 2 (some .int), Cond.constantLong RX7 205 (1000), Cond.methodLink RX6 98 yX1_tax, Cond.instanceMethod yX1_tax, Cond.selects RX1 yX1_tax yX1_tax, Cond.initialized RX1, Cond.code yX1_tax cX1_tax 6 (some .int), Cond.fieldLink RX1 18 "TaxEngine$Brackets" "count" "I", Cond.fieldLink RX1 9 "TaxEngine$Brackets" "thresholds" "[I", Cond.methodLink RX1 38 Lib.Math.min.name, Cond.methodLink RX1 44 Lib.Math.max.name, Cond.fieldLink RX1 15 "TaxEngine$Brackets" "rates" "[I", Cond.methodLink RX6 103 yX0_total, Cond.instanceMethod yX0_total, Cond.selects RX0 yX0_total yX0_total, Cond.initialized RX0, Cond.code yX0_total cX0_total 3 (some .int), Cond.fieldLink RX0 22 "TaxEngine$Amounts" "count" "I"]
def wsX7_bestSum_r6 : List Cond := [Cond.methodLink RX0 29 yX0_leftAt, Cond.instanceMethod yX0_leftAt, Cond.selects RX0 yX0_leftAt yX0_leftAt, Cond.code yX0_leftAt cX0_leftAt 2 (some .int), Cond.fieldLink RX0 9 "TaxEngine$Amounts" "lefts" "[I", Cond.methodLink RX6 109 yX5_given, Cond.instanceMethod yX5_given, Cond.selects RX5 yX5_given yX5_given, Cond.code yX5_given cX5_given 2 (some .int), Cond.fieldLink RX5 21 "TaxEngine$Sheet" "answers" "[I", Cond.methodLink RX7 114 yX6_of, Cond.methodLink RX7 183 yX2_findBest, Cond.instanceMethod yX2_findBest, Cond.selects RX2 yX2_findBest yX2_findBest, Cond.initialized RX2, Cond.code yX2_findBest cX2_findBest 6 (some .int), Cond.fieldLink RX2 18 "TaxEngine$Credits" "order" "[I", Cond.methodLink RX2 36 yX2_sumInOrder, Cond.instanceMethod yX2_sumInOrder, Cond.selects RX2 yX2_sumInOrder yX2_sumInOrder, Cond.code yX2_sumInOrder cX2_sumInOrder 7 (some .int), Cond.fieldLink RX2 24 "TaxEngine$Credits" "count" "I", Cond.fieldLink RX2 9 "TaxEngine$Credits" "sizes" "[I", Cond.methodLink RX2 47 Lib.Math.min.name]
def wsX7_bestSum_r7 : List Cond := [Cond.fieldLink RX2 15 "TaxEngine$Credits" "worths" "[I", Cond.methodLink RX2 40 yX2_keepOrder, Cond.instanceMethod yX2_keepOrder, Cond.selects RX2 yX2_keepOrder yX2_keepOrder, Cond.code yX2_keepOrder cX2_keepOrder 2 none, Cond.fieldLink RX2 21 "TaxEngine$Credits" "best" "[I", Cond.methodLink RX2 43 yX2_toNextOrder, Cond.instanceMethod yX2_toNextOrder, Cond.selects RX2 yX2_toNextOrder yX2_toNextOrder, Cond.code yX2_toNextOrder cX2_toNextOrder 5 (some .boolean), Cond.methodLink RX2 56 yX2_swap, Cond.instanceMethod yX2_swap, Cond.selects RX2 yX2_swap yX2_swap, Cond.code yX2_swap cX2_swap 4 none]
def wsX7_bestSum : List Cond := .code yX7_bestSum cX7_bestSum 2 (some .int) :: ((wsX7_bestSum_r1 ++ (wsX7_bestSum_r2 ++ (wsX7_bestSum_r3 ++ (wsX7_bestSum_r4 ++ (wsX7_bestSum_r5 ++ (wsX7_bestSum_r6 ++ wsX7_bestSum_r7)))))) ++ wsX70 ++ wsX60 ++ wsX40 ++ wsX50 ++ wsX10 ++ wsX00 ++ wsX20 ++ (vx_at0 RX7 198 "java/lang/IndexOutOfBoundsException" ["java/lang/RuntimeException", "java/lang/Exception"]).filter goodWord)
def wsX8_init : List Cond := .code yX8_init cX8_init 1 none :: ([.methodLink RX8 1 objectInit, .instanceMethod objectInit, .code objectInit ⟨#[0xb1]⟩ 1 none, .arrayClass .int, .fieldLink RX8 7 "TaxEngineModel" "kind" "[I", .fieldLink RX8 13 "TaxEngineModel" "first" "[I", .fieldLink RX8 16 "TaxEngineModel" "second" "[I", .fieldLink RX8 19 "TaxEngineModel" "answer" "[I", .fieldLink RX8 22 "TaxEngineModel" "threshold" "[I", .fieldLink RX8 25 "TaxEngineModel" "rate" "[I", .fieldLink RX8 28 "TaxEngineModel" "amount" "[I", .fieldLink RX8 31 "TaxEngineModel" "last" "[I", .fieldLink RX8 34 "TaxEngineModel" "credit" "[I", .fieldLink RX8 37 "TaxEngineModel" "worth" "[I", .fieldLink RX8 40 "TaxEngineModel" "value" "[I", .arrayClass .boolean, .fieldLink RX8 43 "TaxEngineModel" "known" "[Z", .fieldLink RX8 47 "TaxEngineModel" "needs" "[I", .fieldLink RX8 50 "TaxEngineModel" "moves" "[I", .fieldLink RX8 53 "TaxEngineModel" "row" "[I", .fieldLink RX8 56 "TaxEngineModel" "held" "[I", .fieldLink RX8 59 "TaxEngineModel" "order" "[I", .fieldLink RX8 62 "TaxEngineModel" "best" "[I"] ++ wsX80)
def wsX8_thrown : List Cond := .code yX8_thrown cX8_thrown 1 (some .int) :: ([.fieldLink RX8 65 "TaxEngineModel" "thrown" "I"] ++ wsX80)
def wsX8_isIn : List Cond := .code yX8_isIn cX8_isIn 3 (some .boolean) :: ([])
def wsX8_isLine : List Cond := .code yX8_isLine cX8_isLine 1 (some .boolean) :: ([.methodLink RX8 69 yX8_isIn, .static yX8_isIn, .initialized RX8, .code yX8_isIn cX8_isIn 3 (some .boolean)])
def wsX8_usesFirst : List Cond := .code yX8_usesFirst cX8_usesFirst 2 (some .boolean) :: ([.fieldLink RX8 7 "TaxEngineModel" "kind" "[I"] ++ wsX80)
def wsX8_usesSecond : List Cond := .code yX8_usesSecond cX8_usesSecond 3 (some .boolean) :: ([.fieldLink RX8 7 "TaxEngineModel" "kind" "[I"] ++ wsX80)
def wsX8_laysNeeds : List Cond := .code yX8_laysNeeds cX8_laysNeeds 5 none :: ([.fieldLink RX8 47 "TaxEngineModel" "needs" "[I", .fieldLink RX8 13 "TaxEngineModel" "first" "[I", .fieldLink RX8 16 "TaxEngineModel" "second" "[I", .methodLink RX8 73 yX8_usesFirst, .instanceMethod yX8_usesFirst, .selects RX8 yX8_usesFirst yX8_usesFirst, .initialized RX8, .code yX8_usesFirst cX8_usesFirst 2 (some .boolean), .fieldLink RX8 7 "TaxEngineModel" "kind" "[I", .methodLink RX8 77 yX8_usesSecond, .instanceMethod yX8_usesSecond, .selects RX8 yX8_usesSecond yX8_usesSecond, .code yX8_usesSecond cX8_usesSecond 3 (some .boolean)] ++ wsX80)
def wsX8_depends : List Cond := .code yX8_depends cX8_depends 3 (some .boolean) :: ([.fieldLink RX8 47 "TaxEngineModel" "needs" "[I"] ++ wsX80)
def wsX8_circle : List Cond := .code yX8_circle cX8_circle 4 (some .int) :: ([.methodLink RX8 80 yX8_depends, .instanceMethod yX8_depends, .selects RX8 yX8_depends yX8_depends, .initialized RX8, .code yX8_depends cX8_depends 3 (some .boolean), .fieldLink RX8 47 "TaxEngineModel" "needs" "[I"] ++ wsX80)
def wsX8_turned : List Cond := .code yX8_turned cX8_turned 1 (some .int) :: ([])
def wsX8_isFalling : List Cond := .code yX8_isFalling cX8_isFalling 5 (some .boolean) :: ([.fieldLink RX8 50 "TaxEngineModel" "moves" "[I", .fieldLink RX8 13 "TaxEngineModel" "first" "[I", .fieldLink RX8 7 "TaxEngineModel" "kind" "[I", .fieldLink RX8 16 "TaxEngineModel" "second" "[I", .methodLink RX8 73 yX8_usesFirst, .instanceMethod yX8_usesFirst, .selects RX8 yX8_usesFirst yX8_usesFirst, .initialized RX8, .code yX8_usesFirst cX8_usesFirst 2 (some .boolean), .methodLink RX8 77 yX8_usesSecond, .instanceMethod yX8_usesSecond, .selects RX8 yX8_usesSecond yX8_usesSecond, .code yX8_usesSecond cX8_usesSecond 3 (some .boolean), .methodLink RX8 84 yX8_turned, .static yX8_turned, .code yX8_turned cX8_turned 1 (some .int), .methodLink RX8 80 yX8_depends, .instanceMethod yX8_depends, .selects RX8 yX8_depends yX8_depends, .code yX8_depends cX8_depends 3 (some .boolean), .fieldLink RX8 47 "TaxEngineModel" "needs" "[I"] ++ wsX80)
def wsX8_isAllowed_r1 : List Cond := [Cond.fieldLink RX8 7 "TaxEngineModel" "kind" "[I", Cond.fieldLink RX8 13 "TaxEngineModel" "first" "[I", Cond.methodLink RX8 88 yX8_laysNeeds, Cond.instanceMethod yX8_laysNeeds, Cond.selects RX8 yX8_laysNeeds yX8_laysNeeds, Cond.initialized RX8, Cond.code yX8_laysNeeds cX8_laysNeeds 5 none, Cond.fieldLink RX8 47 "TaxEngineModel" "needs" "[I", Cond.fieldLink RX8 16 "TaxEngineModel" "second" "[I", Cond.methodLink RX8 73 yX8_usesFirst, Cond.instanceMethod yX8_usesFirst, Cond.selects RX8 yX8_usesFirst yX8_usesFirst, Cond.code yX8_usesFirst cX8_usesFirst 2 (some .boolean), Cond.methodLink RX8 77 yX8_usesSecond, Cond.instanceMethod yX8_usesSecond, Cond.selects RX8 yX8_usesSecond yX8_usesSecond, Cond.code yX8_usesSecond cX8_usesSecond 3 (some .boolean), Cond.methodLink RX8 80 yX8_depends, Cond.instanceMethod yX8_depends, Cond.selects RX8 yX8_depends yX8_depends, Cond.code yX8_depends cX8_depends 3 (some .boolean), Cond.methodLink RX8 92 yX8_circle, Cond.instanceMethod yX8_circle, Cond.selects RX8 yX8_circle yX8_circle]
def wsX8_isAllowed_r2 : List Cond := [Cond.code yX8_circle cX8_circle 4 (some .int), Cond.methodLink RX8 95 yX8_isFalling, Cond.instanceMethod yX8_isFalling, Cond.selects RX8 yX8_isFalling yX8_isFalling, Cond.code yX8_isFalling cX8_isFalling 5 (some .boolean), Cond.fieldLink RX8 50 "TaxEngineModel" "moves" "[I", Cond.methodLink RX8 84 yX8_turned, Cond.static yX8_turned, Cond.code yX8_turned cX8_turned 1 (some .int)]
def wsX8_isAllowed : List Cond := .code yX8_isAllowed cX8_isAllowed 8 (some .boolean) :: ((wsX8_isAllowed_r1 ++ wsX8_isAllowed_r2) ++ wsX80)
def wsX8_define_r1 : List Cond := [Cond.fieldLink RX8 65 "TaxEngineModel" "thrown" "I", Cond.fieldLink RX8 7 "TaxEngineModel" "kind" "[I", Cond.fieldLink RX8 13 "TaxEngineModel" "first" "[I", Cond.fieldLink RX8 16 "TaxEngineModel" "second" "[I", Cond.methodLink RX8 69 yX8_isIn, Cond.static yX8_isIn, Cond.initialized RX8, Cond.code yX8_isIn cX8_isIn 3 (some .boolean), Cond.methodLink RX8 98 yX8_isLine, Cond.static yX8_isLine, Cond.code yX8_isLine cX8_isLine 1 (some .boolean), Cond.methodLink RX8 101 yX8_isAllowed, Cond.instanceMethod yX8_isAllowed, Cond.selects RX8 yX8_isAllowed yX8_isAllowed, Cond.code yX8_isAllowed cX8_isAllowed 8 (some .boolean), Cond.methodLink RX8 88 yX8_laysNeeds, Cond.instanceMethod yX8_laysNeeds, Cond.selects RX8 yX8_laysNeeds yX8_laysNeeds, Cond.code yX8_laysNeeds cX8_laysNeeds 5 none, Cond.fieldLink RX8 47 "TaxEngineModel" "needs" "[I", Cond.methodLink RX8 73 yX8_usesFirst, Cond.instanceMethod yX8_usesFirst, Cond.selects RX8 yX8_usesFirst yX8_usesFirst, Cond.code yX8_usesFirst cX8_usesFirst 2 (some .boolean)]
def wsX8_define_r2 : List Cond := [Cond.methodLink RX8 77 yX8_usesSecond, Cond.instanceMethod yX8_usesSecond, Cond.selects RX8 yX8_usesSecond yX8_usesSecond, Cond.code yX8_usesSecond cX8_usesSecond 3 (some .boolean), Cond.methodLink RX8 80 yX8_depends, Cond.instanceMethod yX8_depends, Cond.selects RX8 yX8_depends yX8_depends, Cond.code yX8_depends cX8_depends 3 (some .boolean), Cond.methodLink RX8 92 yX8_circle, Cond.instanceMethod yX8_circle, Cond.selects RX8 yX8_circle yX8_circle, Cond.code yX8_circle cX8_circle 4 (some .int), Cond.methodLink RX8 95 yX8_isFalling, Cond.instanceMethod yX8_isFalling, Cond.selects RX8 yX8_isFalling yX8_isFalling, Cond.code yX8_isFalling cX8_isFalling 5 (some .boolean), Cond.fieldLink RX8 50 "TaxEngineModel" "moves" "[I", Cond.methodLink RX8 84 yX8_turned, Cond.static yX8_turned, Cond.code yX8_turned cX8_turned 1 (some .int)]
def wsX8_define : List Cond := .code yX8_define cX8_define 11 none :: ((wsX8_define_r1 ++ wsX8_define_r2) ++ wsX80)
def wsX8_answer : List Cond := .code yX8_answer cX8_answer 4 (some .int) :: ([.constant RX8 105 (1000000), .fieldLink RX8 65 "TaxEngineModel" "thrown" "I", .fieldLink RX8 19 "TaxEngineModel" "answer" "[I", .methodLink RX8 98 yX8_isLine, .static yX8_isLine, .initialized RX8, .code yX8_isLine cX8_isLine 1 (some .boolean), .methodLink RX8 69 yX8_isIn, .static yX8_isIn, .code yX8_isIn cX8_isIn 3 (some .boolean)] ++ wsX80)
def wsX8_kindOf : List Cond := .code yX8_kindOf cX8_kindOf 2 (some .int) :: ([.fieldLink RX8 65 "TaxEngineModel" "thrown" "I", .fieldLink RX8 7 "TaxEngineModel" "kind" "[I", .methodLink RX8 98 yX8_isLine, .static yX8_isLine, .initialized RX8, .code yX8_isLine cX8_isLine 1 (some .boolean), .methodLink RX8 69 yX8_isIn, .static yX8_isIn, .code yX8_isIn cX8_isIn 3 (some .boolean)] ++ wsX80)
def wsX8_taxed : List Cond := .code yX8_taxed cX8_taxed 8 (some .int) :: ([.fieldLink RX8 106 "TaxEngineModel" "brackets" "I", .constant RX8 109 (1000000000), .fieldLink RX8 22 "TaxEngineModel" "threshold" "[I", .fieldLink RX8 25 "TaxEngineModel" "rate" "[I", .constantLong RX8 110 (1000)] ++ wsX80)
def wsX8_all : List Cond := .code yX8_all cX8_all 3 (some .int) :: ([.fieldLink RX8 112 "TaxEngineModel" "amounts" "I", .fieldLink RX8 28 "TaxEngineModel" "amount" "[I"] ++ wsX80)
def wsX8_works_r1 : List Cond := [Cond.fieldLink RX8 7 "TaxEngineModel" "kind" "[I", Cond.fieldLink RX8 40 "TaxEngineModel" "value" "[I", Cond.fieldLink RX8 13 "TaxEngineModel" "first" "[I", Cond.fieldLink RX8 16 "TaxEngineModel" "second" "[I", Cond.fieldLink RX8 19 "TaxEngineModel" "answer" "[I", Cond.constant RX8 109 (1000000000), Cond.constantLong RX8 110 (1000), Cond.methodLink RX8 73 yX8_usesFirst, Cond.instanceMethod yX8_usesFirst, Cond.selects RX8 yX8_usesFirst yX8_usesFirst, Cond.initialized RX8, Cond.code yX8_usesFirst cX8_usesFirst 2 (some .boolean), Cond.methodLink RX8 77 yX8_usesSecond, Cond.instanceMethod yX8_usesSecond, Cond.selects RX8 yX8_usesSecond yX8_usesSecond, Cond.code yX8_usesSecond cX8_usesSecond 3 (some .boolean), Cond.methodLink RX8 115 yX8_taxed, Cond.instanceMethod yX8_taxed, Cond.selects RX8 yX8_taxed yX8_taxed, Cond.code yX8_taxed cX8_taxed 8 (some .int), Cond.fieldLink RX8 106 "TaxEngineModel" "brackets" "I", Cond.fieldLink RX8 22 "TaxEngineModel" "threshold" "[I", Cond.fieldLink RX8 25 "TaxEngineModel" "rate" "[I", Cond.methodLink RX8 118 yX8_all]
def wsX8_works_r2 : List Cond := [Cond.instanceMethod yX8_all, Cond.selects RX8 yX8_all yX8_all, Cond.code yX8_all cX8_all 3 (some .int), Cond.fieldLink RX8 112 "TaxEngineModel" "amounts" "I", Cond.fieldLink RX8 28 "TaxEngineModel" "amount" "[I"]
def wsX8_works : List Cond := .code yX8_works cX8_works 7 (some .int) :: ((wsX8_works_r1 ++ wsX8_works_r2) ++ wsX80)
def wsX8_passes_r1 : List Cond := [Cond.fieldLink RX8 43 "TaxEngineModel" "known" "[Z", Cond.fieldLink RX8 13 "TaxEngineModel" "first" "[I", Cond.fieldLink RX8 16 "TaxEngineModel" "second" "[I", Cond.fieldLink RX8 40 "TaxEngineModel" "value" "[I", Cond.methodLink RX8 73 yX8_usesFirst, Cond.instanceMethod yX8_usesFirst, Cond.selects RX8 yX8_usesFirst yX8_usesFirst, Cond.initialized RX8, Cond.code yX8_usesFirst cX8_usesFirst 2 (some .boolean), Cond.fieldLink RX8 7 "TaxEngineModel" "kind" "[I", Cond.methodLink RX8 77 yX8_usesSecond, Cond.instanceMethod yX8_usesSecond, Cond.selects RX8 yX8_usesSecond yX8_usesSecond, Cond.code yX8_usesSecond cX8_usesSecond 3 (some .boolean), Cond.methodLink RX8 122 yX8_works, Cond.instanceMethod yX8_works, Cond.selects RX8 yX8_works yX8_works, Cond.code yX8_works cX8_works 7 (some .int), Cond.fieldLink RX8 19 "TaxEngineModel" "answer" "[I", Cond.constant RX8 109 (1000000000), Cond.constantLong RX8 110 (1000), Cond.methodLink RX8 115 yX8_taxed, Cond.instanceMethod yX8_taxed, Cond.selects RX8 yX8_taxed yX8_taxed]
def wsX8_passes_r2 : List Cond := [Cond.code yX8_taxed cX8_taxed 8 (some .int), Cond.fieldLink RX8 106 "TaxEngineModel" "brackets" "I", Cond.fieldLink RX8 22 "TaxEngineModel" "threshold" "[I", Cond.fieldLink RX8 25 "TaxEngineModel" "rate" "[I", Cond.methodLink RX8 118 yX8_all, Cond.instanceMethod yX8_all, Cond.selects RX8 yX8_all yX8_all, Cond.code yX8_all cX8_all 3 (some .int), Cond.fieldLink RX8 112 "TaxEngineModel" "amounts" "I", Cond.fieldLink RX8 28 "TaxEngineModel" "amount" "[I"]
def wsX8_passes : List Cond := .code yX8_passes cX8_passes 5 none :: ((wsX8_passes_r1 ++ wsX8_passes_r2) ++ wsX80)
def wsX8_tries_r1 : List Cond := [Cond.fieldLink RX8 40 "TaxEngineModel" "value" "[I", Cond.fieldLink RX8 43 "TaxEngineModel" "known" "[Z", Cond.fieldLink RX8 16 "TaxEngineModel" "second" "[I", Cond.methodLink RX8 126 yX8_passes, Cond.instanceMethod yX8_passes, Cond.selects RX8 yX8_passes yX8_passes, Cond.initialized RX8, Cond.code yX8_passes cX8_passes 5 none, Cond.fieldLink RX8 13 "TaxEngineModel" "first" "[I", Cond.methodLink RX8 73 yX8_usesFirst, Cond.instanceMethod yX8_usesFirst, Cond.selects RX8 yX8_usesFirst yX8_usesFirst, Cond.code yX8_usesFirst cX8_usesFirst 2 (some .boolean), Cond.fieldLink RX8 7 "TaxEngineModel" "kind" "[I", Cond.methodLink RX8 77 yX8_usesSecond, Cond.instanceMethod yX8_usesSecond, Cond.selects RX8 yX8_usesSecond yX8_usesSecond, Cond.code yX8_usesSecond cX8_usesSecond 3 (some .boolean), Cond.methodLink RX8 122 yX8_works, Cond.instanceMethod yX8_works, Cond.selects RX8 yX8_works yX8_works, Cond.code yX8_works cX8_works 7 (some .int), Cond.fieldLink RX8 19 "TaxEngineModel" "answer" "[I", Cond.constant RX8 109 (1000000000)]
def wsX8_tries_r2 : List Cond := [Cond.constantLong RX8 110 (1000), Cond.methodLink RX8 115 yX8_taxed, Cond.instanceMethod yX8_taxed, Cond.selects RX8 yX8_taxed yX8_taxed, Cond.code yX8_taxed cX8_taxed 8 (some .int), Cond.fieldLink RX8 106 "TaxEngineModel" "brackets" "I", Cond.fieldLink RX8 22 "TaxEngineModel" "threshold" "[I", Cond.fieldLink RX8 25 "TaxEngineModel" "rate" "[I", Cond.methodLink RX8 118 yX8_all, Cond.instanceMethod yX8_all, Cond.selects RX8 yX8_all yX8_all, Cond.code yX8_all cX8_all 3 (some .int), Cond.fieldLink RX8 112 "TaxEngineModel" "amounts" "I", Cond.fieldLink RX8 28 "TaxEngineModel" "amount" "[I"]
def wsX8_tries : List Cond := .code yX8_tries cX8_tries 4 (some .boolean) :: ((wsX8_tries_r1 ++ wsX8_tries_r2) ++ wsX80)
def wsX8_halves_r1 : List Cond := [Cond.fieldLink RX8 40 "TaxEngineModel" "value" "[I", Cond.fieldLink RX8 13 "TaxEngineModel" "first" "[I", Cond.fieldLink RX8 16 "TaxEngineModel" "second" "[I", Cond.fieldLink RX8 43 "TaxEngineModel" "known" "[Z", Cond.methodLink RX8 129 yX8_tries, Cond.instanceMethod yX8_tries, Cond.selects RX8 yX8_tries yX8_tries, Cond.initialized RX8, Cond.code yX8_tries cX8_tries 4 (some .boolean), Cond.methodLink RX8 126 yX8_passes, Cond.instanceMethod yX8_passes, Cond.selects RX8 yX8_passes yX8_passes, Cond.code yX8_passes cX8_passes 5 none, Cond.methodLink RX8 73 yX8_usesFirst, Cond.instanceMethod yX8_usesFirst, Cond.selects RX8 yX8_usesFirst yX8_usesFirst, Cond.code yX8_usesFirst cX8_usesFirst 2 (some .boolean), Cond.fieldLink RX8 7 "TaxEngineModel" "kind" "[I", Cond.methodLink RX8 77 yX8_usesSecond, Cond.instanceMethod yX8_usesSecond, Cond.selects RX8 yX8_usesSecond yX8_usesSecond, Cond.code yX8_usesSecond cX8_usesSecond 3 (some .boolean), Cond.methodLink RX8 122 yX8_works, Cond.instanceMethod yX8_works]
def wsX8_halves_r2 : List Cond := [Cond.selects RX8 yX8_works yX8_works, Cond.code yX8_works cX8_works 7 (some .int), Cond.fieldLink RX8 19 "TaxEngineModel" "answer" "[I", Cond.constant RX8 109 (1000000000), Cond.constantLong RX8 110 (1000), Cond.methodLink RX8 115 yX8_taxed, Cond.instanceMethod yX8_taxed, Cond.selects RX8 yX8_taxed yX8_taxed, Cond.code yX8_taxed cX8_taxed 8 (some .int), Cond.fieldLink RX8 106 "TaxEngineModel" "brackets" "I", Cond.fieldLink RX8 22 "TaxEngineModel" "threshold" "[I", Cond.fieldLink RX8 25 "TaxEngineModel" "rate" "[I", Cond.methodLink RX8 118 yX8_all, Cond.instanceMethod yX8_all, Cond.selects RX8 yX8_all yX8_all, Cond.code yX8_all cX8_all 3 (some .int), Cond.fieldLink RX8 112 "TaxEngineModel" "amounts" "I", Cond.fieldLink RX8 28 "TaxEngineModel" "amount" "[I"]
def wsX8_halves : List Cond := .code yX8_halves cX8_halves 5 none :: ((wsX8_halves_r1 ++ wsX8_halves_r2) ++ wsX80)
def wsX8_solves_r1 : List Cond := [Cond.fieldLink RX8 43 "TaxEngineModel" "known" "[Z", Cond.fieldLink RX8 40 "TaxEngineModel" "value" "[I", Cond.fieldLink RX8 7 "TaxEngineModel" "kind" "[I", Cond.fieldLink RX8 13 "TaxEngineModel" "first" "[I", Cond.methodLink RX8 126 yX8_passes, Cond.instanceMethod yX8_passes, Cond.selects RX8 yX8_passes yX8_passes, Cond.initialized RX8, Cond.code yX8_passes cX8_passes 5 none, Cond.fieldLink RX8 16 "TaxEngineModel" "second" "[I", Cond.methodLink RX8 73 yX8_usesFirst, Cond.instanceMethod yX8_usesFirst, Cond.selects RX8 yX8_usesFirst yX8_usesFirst, Cond.code yX8_usesFirst cX8_usesFirst 2 (some .boolean), Cond.methodLink RX8 77 yX8_usesSecond, Cond.instanceMethod yX8_usesSecond, Cond.selects RX8 yX8_usesSecond yX8_usesSecond, Cond.code yX8_usesSecond cX8_usesSecond 3 (some .boolean), Cond.methodLink RX8 122 yX8_works, Cond.instanceMethod yX8_works, Cond.selects RX8 yX8_works yX8_works, Cond.code yX8_works cX8_works 7 (some .int), Cond.fieldLink RX8 19 "TaxEngineModel" "answer" "[I", Cond.constant RX8 109 (1000000000)]
def wsX8_solves_r2 : List Cond := [Cond.constantLong RX8 110 (1000), Cond.methodLink RX8 115 yX8_taxed, Cond.instanceMethod yX8_taxed, Cond.selects RX8 yX8_taxed yX8_taxed, Cond.code yX8_taxed cX8_taxed 8 (some .int), Cond.fieldLink RX8 106 "TaxEngineModel" "brackets" "I", Cond.fieldLink RX8 22 "TaxEngineModel" "threshold" "[I", Cond.fieldLink RX8 25 "TaxEngineModel" "rate" "[I", Cond.methodLink RX8 118 yX8_all, Cond.instanceMethod yX8_all, Cond.selects RX8 yX8_all yX8_all, Cond.code yX8_all cX8_all 3 (some .int), Cond.fieldLink RX8 112 "TaxEngineModel" "amounts" "I", Cond.fieldLink RX8 28 "TaxEngineModel" "amount" "[I", Cond.methodLink RX8 129 yX8_tries, Cond.instanceMethod yX8_tries, Cond.selects RX8 yX8_tries yX8_tries, Cond.code yX8_tries cX8_tries 4 (some .boolean), Cond.methodLink RX8 132 yX8_halves, Cond.instanceMethod yX8_halves, Cond.selects RX8 yX8_halves yX8_halves, Cond.code yX8_halves cX8_halves 5 none]
def wsX8_solves : List Cond := .code yX8_solves cX8_solves 5 none :: ((wsX8_solves_r1 ++ wsX8_solves_r2) ++ wsX80)
def wsX8_value_r1 : List Cond := [Cond.fieldLink RX8 65 "TaxEngineModel" "thrown" "I", Cond.fieldLink RX8 40 "TaxEngineModel" "value" "[I", Cond.methodLink RX8 98 yX8_isLine, Cond.static yX8_isLine, Cond.initialized RX8, Cond.code yX8_isLine cX8_isLine 1 (some .boolean), Cond.methodLink RX8 69 yX8_isIn, Cond.static yX8_isIn, Cond.code yX8_isIn cX8_isIn 3 (some .boolean), Cond.methodLink RX8 135 yX8_solves, Cond.instanceMethod yX8_solves, Cond.selects RX8 yX8_solves yX8_solves, Cond.code yX8_solves cX8_solves 5 none, Cond.fieldLink RX8 43 "TaxEngineModel" "known" "[Z", Cond.fieldLink RX8 7 "TaxEngineModel" "kind" "[I", Cond.fieldLink RX8 13 "TaxEngineModel" "first" "[I", Cond.methodLink RX8 126 yX8_passes, Cond.instanceMethod yX8_passes, Cond.selects RX8 yX8_passes yX8_passes, Cond.code yX8_passes cX8_passes 5 none, Cond.fieldLink RX8 16 "TaxEngineModel" "second" "[I", Cond.methodLink RX8 73 yX8_usesFirst, Cond.instanceMethod yX8_usesFirst, Cond.selects RX8 yX8_usesFirst yX8_usesFirst]
def wsX8_value_r2 : List Cond := [Cond.code yX8_usesFirst cX8_usesFirst 2 (some .boolean), Cond.methodLink RX8 77 yX8_usesSecond, Cond.instanceMethod yX8_usesSecond, Cond.selects RX8 yX8_usesSecond yX8_usesSecond, Cond.code yX8_usesSecond cX8_usesSecond 3 (some .boolean), Cond.methodLink RX8 122 yX8_works, Cond.instanceMethod yX8_works, Cond.selects RX8 yX8_works yX8_works, Cond.code yX8_works cX8_works 7 (some .int), Cond.fieldLink RX8 19 "TaxEngineModel" "answer" "[I", Cond.constant RX8 109 (1000000000), Cond.constantLong RX8 110 (1000), Cond.methodLink RX8 115 yX8_taxed, Cond.instanceMethod yX8_taxed, Cond.selects RX8 yX8_taxed yX8_taxed, Cond.code yX8_taxed cX8_taxed 8 (some .int), Cond.fieldLink RX8 106 "TaxEngineModel" "brackets" "I", Cond.fieldLink RX8 22 "TaxEngineModel" "threshold" "[I", Cond.fieldLink RX8 25 "TaxEngineModel" "rate" "[I", Cond.methodLink RX8 118 yX8_all, Cond.instanceMethod yX8_all, Cond.selects RX8 yX8_all yX8_all, Cond.code yX8_all cX8_all 3 (some .int), Cond.fieldLink RX8 112 "TaxEngineModel" "amounts" "I"]
def wsX8_value_r3 : List Cond := [Cond.fieldLink RX8 28 "TaxEngineModel" "amount" "[I", Cond.methodLink RX8 129 yX8_tries, Cond.instanceMethod yX8_tries, Cond.selects RX8 yX8_tries yX8_tries, Cond.code yX8_tries cX8_tries 4 (some .boolean), Cond.methodLink RX8 132 yX8_halves, Cond.instanceMethod yX8_halves, Cond.selects RX8 yX8_halves yX8_halves, Cond.code yX8_halves cX8_halves 5 none]
def wsX8_value : List Cond := .code yX8_value cX8_value 2 (some .int) :: ((wsX8_value_r1 ++ (wsX8_value_r2 ++ wsX8_value_r3)) ++ wsX80)
def wsX8_boundFor_r1 : List Cond := [Cond.constant RX8 109 (1000000000), Cond.fieldLink RX8 7 "TaxEngineModel" "kind" "[I", Cond.fieldLink RX8 65 "TaxEngineModel" "thrown" "I", Cond.fieldLink RX8 40 "TaxEngineModel" "value" "[I", Cond.fieldLink RX8 16 "TaxEngineModel" "second" "[I", Cond.methodLink RX8 98 yX8_isLine, Cond.static yX8_isLine, Cond.initialized RX8, Cond.code yX8_isLine cX8_isLine 1 (some .boolean), Cond.methodLink RX8 69 yX8_isIn, Cond.static yX8_isIn, Cond.code yX8_isIn cX8_isIn 3 (some .boolean), Cond.methodLink RX8 135 yX8_solves, Cond.instanceMethod yX8_solves, Cond.selects RX8 yX8_solves yX8_solves, Cond.code yX8_solves cX8_solves 5 none, Cond.fieldLink RX8 43 "TaxEngineModel" "known" "[Z", Cond.fieldLink RX8 13 "TaxEngineModel" "first" "[I", Cond.methodLink RX8 126 yX8_passes, Cond.instanceMethod yX8_passes, Cond.selects RX8 yX8_passes yX8_passes, Cond.code yX8_passes cX8_passes 5 none, Cond.methodLink RX8 73 yX8_usesFirst, Cond.instanceMethod yX8_usesFirst]
def wsX8_boundFor_r2 : List Cond := [Cond.selects RX8 yX8_usesFirst yX8_usesFirst, Cond.code yX8_usesFirst cX8_usesFirst 2 (some .boolean), Cond.methodLink RX8 77 yX8_usesSecond, Cond.instanceMethod yX8_usesSecond, Cond.selects RX8 yX8_usesSecond yX8_usesSecond, Cond.code yX8_usesSecond cX8_usesSecond 3 (some .boolean), Cond.methodLink RX8 122 yX8_works, Cond.instanceMethod yX8_works, Cond.selects RX8 yX8_works yX8_works, Cond.code yX8_works cX8_works 7 (some .int), Cond.fieldLink RX8 19 "TaxEngineModel" "answer" "[I", Cond.constantLong RX8 110 (1000), Cond.methodLink RX8 115 yX8_taxed, Cond.instanceMethod yX8_taxed, Cond.selects RX8 yX8_taxed yX8_taxed, Cond.code yX8_taxed cX8_taxed 8 (some .int), Cond.fieldLink RX8 106 "TaxEngineModel" "brackets" "I", Cond.fieldLink RX8 22 "TaxEngineModel" "threshold" "[I", Cond.fieldLink RX8 25 "TaxEngineModel" "rate" "[I", Cond.methodLink RX8 118 yX8_all, Cond.instanceMethod yX8_all, Cond.selects RX8 yX8_all yX8_all, Cond.code yX8_all cX8_all 3 (some .int), Cond.fieldLink RX8 112 "TaxEngineModel" "amounts" "I"]
def wsX8_boundFor_r3 : List Cond := [Cond.fieldLink RX8 28 "TaxEngineModel" "amount" "[I", Cond.methodLink RX8 129 yX8_tries, Cond.instanceMethod yX8_tries, Cond.selects RX8 yX8_tries yX8_tries, Cond.code yX8_tries cX8_tries 4 (some .boolean), Cond.methodLink RX8 132 yX8_halves, Cond.instanceMethod yX8_halves, Cond.selects RX8 yX8_halves yX8_halves, Cond.code yX8_halves cX8_halves 5 none]
def wsX8_boundFor : List Cond := .code yX8_boundFor cX8_boundFor 3 (some .int) :: ((wsX8_boundFor_r1 ++ (wsX8_boundFor_r2 ++ wsX8_boundFor_r3)) ++ wsX80)
def wsX8_dependsOn_r1 : List Cond := [Cond.fieldLink RX8 65 "TaxEngineModel" "thrown" "I", Cond.methodLink RX8 98 yX8_isLine, Cond.static yX8_isLine, Cond.initialized RX8, Cond.code yX8_isLine cX8_isLine 1 (some .boolean), Cond.methodLink RX8 69 yX8_isIn, Cond.static yX8_isIn, Cond.code yX8_isIn cX8_isIn 3 (some .boolean), Cond.methodLink RX8 88 yX8_laysNeeds, Cond.instanceMethod yX8_laysNeeds, Cond.selects RX8 yX8_laysNeeds yX8_laysNeeds, Cond.code yX8_laysNeeds cX8_laysNeeds 5 none, Cond.fieldLink RX8 47 "TaxEngineModel" "needs" "[I", Cond.fieldLink RX8 13 "TaxEngineModel" "first" "[I", Cond.fieldLink RX8 16 "TaxEngineModel" "second" "[I", Cond.methodLink RX8 73 yX8_usesFirst, Cond.instanceMethod yX8_usesFirst, Cond.selects RX8 yX8_usesFirst yX8_usesFirst, Cond.code yX8_usesFirst cX8_usesFirst 2 (some .boolean), Cond.fieldLink RX8 7 "TaxEngineModel" "kind" "[I", Cond.methodLink RX8 77 yX8_usesSecond, Cond.instanceMethod yX8_usesSecond, Cond.selects RX8 yX8_usesSecond yX8_usesSecond, Cond.code yX8_usesSecond cX8_usesSecond 3 (some .boolean)]
def wsX8_dependsOn_r2 : List Cond := [Cond.methodLink RX8 80 yX8_depends, Cond.instanceMethod yX8_depends, Cond.selects RX8 yX8_depends yX8_depends, Cond.code yX8_depends cX8_depends 3 (some .boolean)]
def wsX8_dependsOn : List Cond := .code yX8_dependsOn cX8_dependsOn 3 (some .boolean) :: ((wsX8_dependsOn_r1 ++ wsX8_dependsOn_r2) ++ wsX80)
def wsX8_influence_r1 : List Cond := [Cond.fieldLink RX8 65 "TaxEngineModel" "thrown" "I", Cond.fieldLink RX8 7 "TaxEngineModel" "kind" "[I", Cond.fieldLink RX8 56 "TaxEngineModel" "held" "[I", Cond.fieldLink RX8 40 "TaxEngineModel" "value" "[I", Cond.fieldLink RX8 19 "TaxEngineModel" "answer" "[I", Cond.methodLink RX8 98 yX8_isLine, Cond.static yX8_isLine, Cond.initialized RX8, Cond.code yX8_isLine cX8_isLine 1 (some .boolean), Cond.methodLink RX8 69 yX8_isIn, Cond.static yX8_isIn, Cond.code yX8_isIn cX8_isIn 3 (some .boolean), Cond.methodLink RX8 135 yX8_solves, Cond.instanceMethod yX8_solves, Cond.selects RX8 yX8_solves yX8_solves, Cond.code yX8_solves cX8_solves 5 none, Cond.fieldLink RX8 43 "TaxEngineModel" "known" "[Z", Cond.fieldLink RX8 13 "TaxEngineModel" "first" "[I", Cond.methodLink RX8 126 yX8_passes, Cond.instanceMethod yX8_passes, Cond.selects RX8 yX8_passes yX8_passes, Cond.code yX8_passes cX8_passes 5 none, Cond.fieldLink RX8 16 "TaxEngineModel" "second" "[I", Cond.methodLink RX8 73 yX8_usesFirst]
def wsX8_influence_r2 : List Cond := [Cond.instanceMethod yX8_usesFirst, Cond.selects RX8 yX8_usesFirst yX8_usesFirst, Cond.code yX8_usesFirst cX8_usesFirst 2 (some .boolean), Cond.methodLink RX8 77 yX8_usesSecond, Cond.instanceMethod yX8_usesSecond, Cond.selects RX8 yX8_usesSecond yX8_usesSecond, Cond.code yX8_usesSecond cX8_usesSecond 3 (some .boolean), Cond.methodLink RX8 122 yX8_works, Cond.instanceMethod yX8_works, Cond.selects RX8 yX8_works yX8_works, Cond.code yX8_works cX8_works 7 (some .int), Cond.constant RX8 109 (1000000000), Cond.constantLong RX8 110 (1000), Cond.methodLink RX8 115 yX8_taxed, Cond.instanceMethod yX8_taxed, Cond.selects RX8 yX8_taxed yX8_taxed, Cond.code yX8_taxed cX8_taxed 8 (some .int), Cond.fieldLink RX8 106 "TaxEngineModel" "brackets" "I", Cond.fieldLink RX8 22 "TaxEngineModel" "threshold" "[I", Cond.fieldLink RX8 25 "TaxEngineModel" "rate" "[I", Cond.methodLink RX8 118 yX8_all, Cond.instanceMethod yX8_all, Cond.selects RX8 yX8_all yX8_all, Cond.code yX8_all cX8_all 3 (some .int)]
def wsX8_influence_r3 : List Cond := [Cond.fieldLink RX8 112 "TaxEngineModel" "amounts" "I", Cond.fieldLink RX8 28 "TaxEngineModel" "amount" "[I", Cond.methodLink RX8 129 yX8_tries, Cond.instanceMethod yX8_tries, Cond.selects RX8 yX8_tries yX8_tries, Cond.code yX8_tries cX8_tries 4 (some .boolean), Cond.methodLink RX8 132 yX8_halves, Cond.instanceMethod yX8_halves, Cond.selects RX8 yX8_halves yX8_halves, Cond.code yX8_halves cX8_halves 5 none]
def wsX8_influence : List Cond := .code yX8_influence cX8_influence 4 (some .int) :: ((wsX8_influence_r1 ++ (wsX8_influence_r2 ++ wsX8_influence_r3)) ++ wsX80)
def wsX8_why_r1 : List Cond := [Cond.fieldLink RX8 65 "TaxEngineModel" "thrown" "I", Cond.fieldLink RX8 53 "TaxEngineModel" "row" "[I", Cond.fieldLink RX8 7 "TaxEngineModel" "kind" "[I", Cond.fieldLink RX8 40 "TaxEngineModel" "value" "[I", Cond.fieldLink RX8 13 "TaxEngineModel" "first" "[I", Cond.fieldLink RX8 16 "TaxEngineModel" "second" "[I", Cond.methodLink RX8 98 yX8_isLine, Cond.static yX8_isLine, Cond.initialized RX8, Cond.code yX8_isLine cX8_isLine 1 (some .boolean), Cond.methodLink RX8 69 yX8_isIn, Cond.static yX8_isIn, Cond.code yX8_isIn cX8_isIn 3 (some .boolean), Cond.methodLink RX8 135 yX8_solves, Cond.instanceMethod yX8_solves, Cond.selects RX8 yX8_solves yX8_solves, Cond.code yX8_solves cX8_solves 5 none, Cond.fieldLink RX8 43 "TaxEngineModel" "known" "[Z", Cond.methodLink RX8 126 yX8_passes, Cond.instanceMethod yX8_passes, Cond.selects RX8 yX8_passes yX8_passes, Cond.code yX8_passes cX8_passes 5 none, Cond.methodLink RX8 73 yX8_usesFirst, Cond.instanceMethod yX8_usesFirst]
def wsX8_why_r2 : List Cond := [Cond.selects RX8 yX8_usesFirst yX8_usesFirst, Cond.code yX8_usesFirst cX8_usesFirst 2 (some .boolean), Cond.methodLink RX8 77 yX8_usesSecond, Cond.instanceMethod yX8_usesSecond, Cond.selects RX8 yX8_usesSecond yX8_usesSecond, Cond.code yX8_usesSecond cX8_usesSecond 3 (some .boolean), Cond.methodLink RX8 122 yX8_works, Cond.instanceMethod yX8_works, Cond.selects RX8 yX8_works yX8_works, Cond.code yX8_works cX8_works 7 (some .int), Cond.fieldLink RX8 19 "TaxEngineModel" "answer" "[I", Cond.constant RX8 109 (1000000000), Cond.constantLong RX8 110 (1000), Cond.methodLink RX8 115 yX8_taxed, Cond.instanceMethod yX8_taxed, Cond.selects RX8 yX8_taxed yX8_taxed, Cond.code yX8_taxed cX8_taxed 8 (some .int), Cond.fieldLink RX8 106 "TaxEngineModel" "brackets" "I", Cond.fieldLink RX8 22 "TaxEngineModel" "threshold" "[I", Cond.fieldLink RX8 25 "TaxEngineModel" "rate" "[I", Cond.methodLink RX8 118 yX8_all, Cond.instanceMethod yX8_all, Cond.selects RX8 yX8_all yX8_all, Cond.code yX8_all cX8_all 3 (some .int)]
def wsX8_why_r3 : List Cond := [Cond.fieldLink RX8 112 "TaxEngineModel" "amounts" "I", Cond.fieldLink RX8 28 "TaxEngineModel" "amount" "[I", Cond.methodLink RX8 129 yX8_tries, Cond.instanceMethod yX8_tries, Cond.selects RX8 yX8_tries yX8_tries, Cond.code yX8_tries cX8_tries 4 (some .boolean), Cond.methodLink RX8 132 yX8_halves, Cond.instanceMethod yX8_halves, Cond.selects RX8 yX8_halves yX8_halves, Cond.code yX8_halves cX8_halves 5 none]
def wsX8_why : List Cond := .code yX8_why cX8_why 11 (some .int) :: ((wsX8_why_r1 ++ (wsX8_why_r2 ++ wsX8_why_r3)) ++ wsX80)
def wsX8_bracket : List Cond := .code yX8_bracket cX8_bracket 5 (some .int) :: ([.constant RX8 105 (1000000), .fieldLink RX8 65 "TaxEngineModel" "thrown" "I", .fieldLink RX8 106 "TaxEngineModel" "brackets" "I", .fieldLink RX8 22 "TaxEngineModel" "threshold" "[I", .fieldLink RX8 25 "TaxEngineModel" "rate" "[I", .methodLink RX8 69 yX8_isIn, .static yX8_isIn, .initialized RX8, .code yX8_isIn cX8_isIn 3 (some .boolean)] ++ wsX80)
def wsX8_dropBrackets : List Cond := .code yX8_dropBrackets cX8_dropBrackets 2 (some .int) :: ([.fieldLink RX8 65 "TaxEngineModel" "thrown" "I", .fieldLink RX8 106 "TaxEngineModel" "brackets" "I"] ++ wsX80)
def wsX8_taxOn : List Cond := .code yX8_taxOn cX8_taxOn 2 (some .int) :: ([.constant RX8 109 (1000000000), .fieldLink RX8 65 "TaxEngineModel" "thrown" "I", .methodLink RX8 69 yX8_isIn, .static yX8_isIn, .initialized RX8, .code yX8_isIn cX8_isIn 3 (some .boolean), .methodLink RX8 115 yX8_taxed, .instanceMethod yX8_taxed, .selects RX8 yX8_taxed yX8_taxed, .code yX8_taxed cX8_taxed 8 (some .int), .fieldLink RX8 106 "TaxEngineModel" "brackets" "I", .fieldLink RX8 22 "TaxEngineModel" "threshold" "[I", .fieldLink RX8 25 "TaxEngineModel" "rate" "[I", .constantLong RX8 110 (1000)] ++ wsX80)
def wsX8_carry : List Cond := .code yX8_carry cX8_carry 4 (some .int) :: ([.constant RX8 105 (1000000), .fieldLink RX8 139 "TaxEngineModel" "year" "I", .fieldLink RX8 65 "TaxEngineModel" "thrown" "I", .fieldLink RX8 112 "TaxEngineModel" "amounts" "I", .fieldLink RX8 31 "TaxEngineModel" "last" "[I", .fieldLink RX8 28 "TaxEngineModel" "amount" "[I", .methodLink RX8 69 yX8_isIn, .static yX8_isIn, .initialized RX8, .code yX8_isIn cX8_isIn 3 (some .boolean), .methodLink RX8 118 yX8_all, .instanceMethod yX8_all, .selects RX8 yX8_all yX8_all, .code yX8_all cX8_all 3 (some .int)] ++ wsX80)
def wsX8_carried : List Cond := .code yX8_carried cX8_carried 1 (some .int) :: ([.fieldLink RX8 65 "TaxEngineModel" "thrown" "I", .methodLink RX8 118 yX8_all, .instanceMethod yX8_all, .selects RX8 yX8_all yX8_all, .initialized RX8, .code yX8_all cX8_all 3 (some .int), .fieldLink RX8 112 "TaxEngineModel" "amounts" "I", .fieldLink RX8 28 "TaxEngineModel" "amount" "[I"] ++ wsX80)
def wsX8_carriedAt : List Cond := .code yX8_carriedAt cX8_carriedAt 2 (some .int) :: ([.fieldLink RX8 112 "TaxEngineModel" "amounts" "I", .fieldLink RX8 65 "TaxEngineModel" "thrown" "I", .fieldLink RX8 28 "TaxEngineModel" "amount" "[I", .methodLink RX8 69 yX8_isIn, .static yX8_isIn, .initialized RX8, .code yX8_isIn cX8_isIn 3 (some .boolean)] ++ wsX80)
def wsX8_year : List Cond := .code yX8_year cX8_year 1 (some .int) :: ([.fieldLink RX8 65 "TaxEngineModel" "thrown" "I", .fieldLink RX8 139 "TaxEngineModel" "year" "I"] ++ wsX80)
def wsX8_spends : List Cond := .code yX8_spends cX8_spends 5 (some .int) :: ([.fieldLink RX8 112 "TaxEngineModel" "amounts" "I", .fieldLink RX8 28 "TaxEngineModel" "amount" "[I"] ++ wsX80)
def wsX8_closeYear_r1 : List Cond := [Cond.fieldLink RX8 65 "TaxEngineModel" "thrown" "I", Cond.fieldLink RX8 7 "TaxEngineModel" "kind" "[I", Cond.fieldLink RX8 40 "TaxEngineModel" "value" "[I", Cond.fieldLink RX8 112 "TaxEngineModel" "amounts" "I", Cond.fieldLink RX8 28 "TaxEngineModel" "amount" "[I", Cond.fieldLink RX8 31 "TaxEngineModel" "last" "[I", Cond.fieldLink RX8 139 "TaxEngineModel" "year" "I", Cond.methodLink RX8 135 yX8_solves, Cond.instanceMethod yX8_solves, Cond.selects RX8 yX8_solves yX8_solves, Cond.initialized RX8, Cond.code yX8_solves cX8_solves 5 none, Cond.fieldLink RX8 43 "TaxEngineModel" "known" "[Z", Cond.fieldLink RX8 13 "TaxEngineModel" "first" "[I", Cond.methodLink RX8 126 yX8_passes, Cond.instanceMethod yX8_passes, Cond.selects RX8 yX8_passes yX8_passes, Cond.code yX8_passes cX8_passes 5 none, Cond.fieldLink RX8 16 "TaxEngineModel" "second" "[I", Cond.methodLink RX8 73 yX8_usesFirst, Cond.instanceMethod yX8_usesFirst, Cond.selects RX8 yX8_usesFirst yX8_usesFirst, Cond.code yX8_usesFirst cX8_usesFirst 2 (some .boolean), Cond.methodLink RX8 77 yX8_usesSecond]
def wsX8_closeYear_r2 : List Cond := [Cond.instanceMethod yX8_usesSecond, Cond.selects RX8 yX8_usesSecond yX8_usesSecond, Cond.code yX8_usesSecond cX8_usesSecond 3 (some .boolean), Cond.methodLink RX8 122 yX8_works, Cond.instanceMethod yX8_works, Cond.selects RX8 yX8_works yX8_works, Cond.code yX8_works cX8_works 7 (some .int), Cond.fieldLink RX8 19 "TaxEngineModel" "answer" "[I", Cond.constant RX8 109 (1000000000), Cond.constantLong RX8 110 (1000), Cond.methodLink RX8 115 yX8_taxed, Cond.instanceMethod yX8_taxed, Cond.selects RX8 yX8_taxed yX8_taxed, Cond.code yX8_taxed cX8_taxed 8 (some .int), Cond.fieldLink RX8 106 "TaxEngineModel" "brackets" "I", Cond.fieldLink RX8 22 "TaxEngineModel" "threshold" "[I", Cond.fieldLink RX8 25 "TaxEngineModel" "rate" "[I", Cond.methodLink RX8 118 yX8_all, Cond.instanceMethod yX8_all, Cond.selects RX8 yX8_all yX8_all, Cond.code yX8_all cX8_all 3 (some .int), Cond.methodLink RX8 129 yX8_tries, Cond.instanceMethod yX8_tries, Cond.selects RX8 yX8_tries yX8_tries]
def wsX8_closeYear_r3 : List Cond := [Cond.code yX8_tries cX8_tries 4 (some .boolean), Cond.methodLink RX8 132 yX8_halves, Cond.instanceMethod yX8_halves, Cond.selects RX8 yX8_halves yX8_halves, Cond.code yX8_halves cX8_halves 5 none, Cond.methodLink RX8 142 yX8_spends, Cond.instanceMethod yX8_spends, Cond.selects RX8 yX8_spends yX8_spends, Cond.code yX8_spends cX8_spends 5 (some .int)]
def wsX8_closeYear : List Cond := .code yX8_closeYear cX8_closeYear 4 (some .int) :: ((wsX8_closeYear_r1 ++ (wsX8_closeYear_r2 ++ wsX8_closeYear_r3)) ++ wsX80)
def wsX8_addCredit : List Cond := .code yX8_addCredit cX8_addCredit 3 (some .int) :: ([.constant RX8 105 (1000000), .fieldLink RX8 145 "TaxEngineModel" "credits" "I", .fieldLink RX8 65 "TaxEngineModel" "thrown" "I", .fieldLink RX8 34 "TaxEngineModel" "credit" "[I", .fieldLink RX8 37 "TaxEngineModel" "worth" "[I", .methodLink RX8 69 yX8_isIn, .static yX8_isIn, .initialized RX8, .code yX8_isIn cX8_isIn 3 (some .boolean)] ++ wsX80)
def wsX8_dropCredit : List Cond := .code yX8_dropCredit cX8_dropCredit 1 (some .int) :: ([.fieldLink RX8 145 "TaxEngineModel" "credits" "I", .fieldLink RX8 65 "TaxEngineModel" "thrown" "I"] ++ wsX80)
def wsX8_comes : List Cond := .code yX8_comes cX8_comes 7 (some .int) :: ([.fieldLink RX8 145 "TaxEngineModel" "credits" "I", .fieldLink RX8 34 "TaxEngineModel" "credit" "[I", .fieldLink RX8 59 "TaxEngineModel" "order" "[I", .fieldLink RX8 37 "TaxEngineModel" "worth" "[I", .constantLong RX8 110 (1000)] ++ wsX80)
def wsX8_laysOrder : List Cond := .code yX8_laysOrder cX8_laysOrder 5 (some .boolean) :: ([.fieldLink RX8 145 "TaxEngineModel" "credits" "I", .fieldLink RX8 59 "TaxEngineModel" "order" "[I"] ++ wsX80)
def wsX8_orders : List Cond := .code yX8_orders cX8_orders 5 none :: ([.fieldLink RX8 145 "TaxEngineModel" "credits" "I", .fieldLink RX8 148 "TaxEngineModel" "bestSum" "I", .fieldLink RX8 62 "TaxEngineModel" "best" "[I", .fieldLink RX8 59 "TaxEngineModel" "order" "[I", .methodLink RX8 151 yX8_laysOrder, .instanceMethod yX8_laysOrder, .selects RX8 yX8_laysOrder yX8_laysOrder, .initialized RX8, .code yX8_laysOrder cX8_laysOrder 5 (some .boolean), .methodLink RX8 154 yX8_comes, .instanceMethod yX8_comes, .selects RX8 yX8_comes yX8_comes, .code yX8_comes cX8_comes 7 (some .int), .fieldLink RX8 34 "TaxEngineModel" "credit" "[I", .fieldLink RX8 37 "TaxEngineModel" "worth" "[I", .constantLong RX8 110 (1000)] ++ wsX80)
def wsX8_creditAt_r1 : List Cond := [Cond.fieldLink RX8 145 "TaxEngineModel" "credits" "I", Cond.fieldLink RX8 65 "TaxEngineModel" "thrown" "I", Cond.fieldLink RX8 40 "TaxEngineModel" "value" "[I", Cond.fieldLink RX8 62 "TaxEngineModel" "best" "[I", Cond.methodLink RX8 98 yX8_isLine, Cond.static yX8_isLine, Cond.initialized RX8, Cond.code yX8_isLine cX8_isLine 1 (some .boolean), Cond.methodLink RX8 69 yX8_isIn, Cond.static yX8_isIn, Cond.code yX8_isIn cX8_isIn 3 (some .boolean), Cond.methodLink RX8 135 yX8_solves, Cond.instanceMethod yX8_solves, Cond.selects RX8 yX8_solves yX8_solves, Cond.code yX8_solves cX8_solves 5 none, Cond.fieldLink RX8 43 "TaxEngineModel" "known" "[Z", Cond.fieldLink RX8 7 "TaxEngineModel" "kind" "[I", Cond.fieldLink RX8 13 "TaxEngineModel" "first" "[I", Cond.methodLink RX8 126 yX8_passes, Cond.instanceMethod yX8_passes, Cond.selects RX8 yX8_passes yX8_passes, Cond.code yX8_passes cX8_passes 5 none, Cond.fieldLink RX8 16 "TaxEngineModel" "second" "[I", Cond.methodLink RX8 73 yX8_usesFirst]
def wsX8_creditAt_r2 : List Cond := [Cond.instanceMethod yX8_usesFirst, Cond.selects RX8 yX8_usesFirst yX8_usesFirst, Cond.code yX8_usesFirst cX8_usesFirst 2 (some .boolean), Cond.methodLink RX8 77 yX8_usesSecond, Cond.instanceMethod yX8_usesSecond, Cond.selects RX8 yX8_usesSecond yX8_usesSecond, Cond.code yX8_usesSecond cX8_usesSecond 3 (some .boolean), Cond.methodLink RX8 122 yX8_works, Cond.instanceMethod yX8_works, Cond.selects RX8 yX8_works yX8_works, Cond.code yX8_works cX8_works 7 (some .int), Cond.fieldLink RX8 19 "TaxEngineModel" "answer" "[I", Cond.constant RX8 109 (1000000000), Cond.constantLong RX8 110 (1000), Cond.methodLink RX8 115 yX8_taxed, Cond.instanceMethod yX8_taxed, Cond.selects RX8 yX8_taxed yX8_taxed, Cond.code yX8_taxed cX8_taxed 8 (some .int), Cond.fieldLink RX8 106 "TaxEngineModel" "brackets" "I", Cond.fieldLink RX8 22 "TaxEngineModel" "threshold" "[I", Cond.fieldLink RX8 25 "TaxEngineModel" "rate" "[I", Cond.methodLink RX8 118 yX8_all, Cond.instanceMethod yX8_all, Cond.selects RX8 yX8_all yX8_all]
def wsX8_creditAt_r3 : List Cond := [Cond.code yX8_all cX8_all 3 (some .int), Cond.fieldLink RX8 112 "TaxEngineModel" "amounts" "I", Cond.fieldLink RX8 28 "TaxEngineModel" "amount" "[I", Cond.methodLink RX8 129 yX8_tries, Cond.instanceMethod yX8_tries, Cond.selects RX8 yX8_tries yX8_tries, Cond.code yX8_tries cX8_tries 4 (some .boolean), Cond.methodLink RX8 132 yX8_halves, Cond.instanceMethod yX8_halves, Cond.selects RX8 yX8_halves yX8_halves, Cond.code yX8_halves cX8_halves 5 none, Cond.methodLink RX8 157 yX8_orders, Cond.instanceMethod yX8_orders, Cond.selects RX8 yX8_orders yX8_orders, Cond.code yX8_orders cX8_orders 5 none, Cond.fieldLink RX8 148 "TaxEngineModel" "bestSum" "I", Cond.fieldLink RX8 59 "TaxEngineModel" "order" "[I", Cond.methodLink RX8 151 yX8_laysOrder, Cond.instanceMethod yX8_laysOrder, Cond.selects RX8 yX8_laysOrder yX8_laysOrder, Cond.code yX8_laysOrder cX8_laysOrder 5 (some .boolean), Cond.methodLink RX8 154 yX8_comes, Cond.instanceMethod yX8_comes, Cond.selects RX8 yX8_comes yX8_comes]
def wsX8_creditAt_r4 : List Cond := [Cond.code yX8_comes cX8_comes 7 (some .int), Cond.fieldLink RX8 34 "TaxEngineModel" "credit" "[I", Cond.fieldLink RX8 37 "TaxEngineModel" "worth" "[I"]
def wsX8_creditAt : List Cond := .code yX8_creditAt cX8_creditAt 3 (some .int) :: ((wsX8_creditAt_r1 ++ (wsX8_creditAt_r2 ++ (wsX8_creditAt_r3 ++ wsX8_creditAt_r4))) ++ wsX80)
def wsX8_afterCredits_r1 : List Cond := [Cond.fieldLink RX8 65 "TaxEngineModel" "thrown" "I", Cond.fieldLink RX8 40 "TaxEngineModel" "value" "[I", Cond.fieldLink RX8 145 "TaxEngineModel" "credits" "I", Cond.fieldLink RX8 34 "TaxEngineModel" "credit" "[I", Cond.methodLink RX8 98 yX8_isLine, Cond.static yX8_isLine, Cond.initialized RX8, Cond.code yX8_isLine cX8_isLine 1 (some .boolean), Cond.methodLink RX8 69 yX8_isIn, Cond.static yX8_isIn, Cond.code yX8_isIn cX8_isIn 3 (some .boolean), Cond.methodLink RX8 135 yX8_solves, Cond.instanceMethod yX8_solves, Cond.selects RX8 yX8_solves yX8_solves, Cond.code yX8_solves cX8_solves 5 none, Cond.fieldLink RX8 43 "TaxEngineModel" "known" "[Z", Cond.fieldLink RX8 7 "TaxEngineModel" "kind" "[I", Cond.fieldLink RX8 13 "TaxEngineModel" "first" "[I", Cond.methodLink RX8 126 yX8_passes, Cond.instanceMethod yX8_passes, Cond.selects RX8 yX8_passes yX8_passes, Cond.code yX8_passes cX8_passes 5 none, Cond.fieldLink RX8 16 "TaxEngineModel" "second" "[I", Cond.methodLink RX8 73 yX8_usesFirst]
def wsX8_afterCredits_r2 : List Cond := [Cond.instanceMethod yX8_usesFirst, Cond.selects RX8 yX8_usesFirst yX8_usesFirst, Cond.code yX8_usesFirst cX8_usesFirst 2 (some .boolean), Cond.methodLink RX8 77 yX8_usesSecond, Cond.instanceMethod yX8_usesSecond, Cond.selects RX8 yX8_usesSecond yX8_usesSecond, Cond.code yX8_usesSecond cX8_usesSecond 3 (some .boolean), Cond.methodLink RX8 122 yX8_works, Cond.instanceMethod yX8_works, Cond.selects RX8 yX8_works yX8_works, Cond.code yX8_works cX8_works 7 (some .int), Cond.fieldLink RX8 19 "TaxEngineModel" "answer" "[I", Cond.constant RX8 109 (1000000000), Cond.constantLong RX8 110 (1000), Cond.methodLink RX8 115 yX8_taxed, Cond.instanceMethod yX8_taxed, Cond.selects RX8 yX8_taxed yX8_taxed, Cond.code yX8_taxed cX8_taxed 8 (some .int), Cond.fieldLink RX8 106 "TaxEngineModel" "brackets" "I", Cond.fieldLink RX8 22 "TaxEngineModel" "threshold" "[I", Cond.fieldLink RX8 25 "TaxEngineModel" "rate" "[I", Cond.methodLink RX8 118 yX8_all, Cond.instanceMethod yX8_all, Cond.selects RX8 yX8_all yX8_all]
def wsX8_afterCredits_r3 : List Cond := [Cond.code yX8_all cX8_all 3 (some .int), Cond.fieldLink RX8 112 "TaxEngineModel" "amounts" "I", Cond.fieldLink RX8 28 "TaxEngineModel" "amount" "[I", Cond.methodLink RX8 129 yX8_tries, Cond.instanceMethod yX8_tries, Cond.selects RX8 yX8_tries yX8_tries, Cond.code yX8_tries cX8_tries 4 (some .boolean), Cond.methodLink RX8 132 yX8_halves, Cond.instanceMethod yX8_halves, Cond.selects RX8 yX8_halves yX8_halves, Cond.code yX8_halves cX8_halves 5 none]
def wsX8_afterCredits : List Cond := .code yX8_afterCredits cX8_afterCredits 4 (some .int) :: ((wsX8_afterCredits_r1 ++ (wsX8_afterCredits_r2 ++ wsX8_afterCredits_r3)) ++ wsX80)
def wsX8_bestSum_r1 : List Cond := [Cond.fieldLink RX8 65 "TaxEngineModel" "thrown" "I", Cond.fieldLink RX8 40 "TaxEngineModel" "value" "[I", Cond.fieldLink RX8 148 "TaxEngineModel" "bestSum" "I", Cond.methodLink RX8 98 yX8_isLine, Cond.static yX8_isLine, Cond.initialized RX8, Cond.code yX8_isLine cX8_isLine 1 (some .boolean), Cond.methodLink RX8 69 yX8_isIn, Cond.static yX8_isIn, Cond.code yX8_isIn cX8_isIn 3 (some .boolean), Cond.methodLink RX8 135 yX8_solves, Cond.instanceMethod yX8_solves, Cond.selects RX8 yX8_solves yX8_solves, Cond.code yX8_solves cX8_solves 5 none, Cond.fieldLink RX8 43 "TaxEngineModel" "known" "[Z", Cond.fieldLink RX8 7 "TaxEngineModel" "kind" "[I", Cond.fieldLink RX8 13 "TaxEngineModel" "first" "[I", Cond.methodLink RX8 126 yX8_passes, Cond.instanceMethod yX8_passes, Cond.selects RX8 yX8_passes yX8_passes, Cond.code yX8_passes cX8_passes 5 none, Cond.fieldLink RX8 16 "TaxEngineModel" "second" "[I", Cond.methodLink RX8 73 yX8_usesFirst, Cond.instanceMethod yX8_usesFirst]
def wsX8_bestSum_r2 : List Cond := [Cond.selects RX8 yX8_usesFirst yX8_usesFirst, Cond.code yX8_usesFirst cX8_usesFirst 2 (some .boolean), Cond.methodLink RX8 77 yX8_usesSecond, Cond.instanceMethod yX8_usesSecond, Cond.selects RX8 yX8_usesSecond yX8_usesSecond, Cond.code yX8_usesSecond cX8_usesSecond 3 (some .boolean), Cond.methodLink RX8 122 yX8_works, Cond.instanceMethod yX8_works, Cond.selects RX8 yX8_works yX8_works, Cond.code yX8_works cX8_works 7 (some .int), Cond.fieldLink RX8 19 "TaxEngineModel" "answer" "[I", Cond.constant RX8 109 (1000000000), Cond.constantLong RX8 110 (1000), Cond.methodLink RX8 115 yX8_taxed, Cond.instanceMethod yX8_taxed, Cond.selects RX8 yX8_taxed yX8_taxed, Cond.code yX8_taxed cX8_taxed 8 (some .int), Cond.fieldLink RX8 106 "TaxEngineModel" "brackets" "I", Cond.fieldLink RX8 22 "TaxEngineModel" "threshold" "[I", Cond.fieldLink RX8 25 "TaxEngineModel" "rate" "[I", Cond.methodLink RX8 118 yX8_all, Cond.instanceMethod yX8_all, Cond.selects RX8 yX8_all yX8_all, Cond.code yX8_all cX8_all 3 (some .int)]
def wsX8_bestSum_r3 : List Cond := [Cond.fieldLink RX8 112 "TaxEngineModel" "amounts" "I", Cond.fieldLink RX8 28 "TaxEngineModel" "amount" "[I", Cond.methodLink RX8 129 yX8_tries, Cond.instanceMethod yX8_tries, Cond.selects RX8 yX8_tries yX8_tries, Cond.code yX8_tries cX8_tries 4 (some .boolean), Cond.methodLink RX8 132 yX8_halves, Cond.instanceMethod yX8_halves, Cond.selects RX8 yX8_halves yX8_halves, Cond.code yX8_halves cX8_halves 5 none, Cond.methodLink RX8 157 yX8_orders, Cond.instanceMethod yX8_orders, Cond.selects RX8 yX8_orders yX8_orders, Cond.code yX8_orders cX8_orders 5 none, Cond.fieldLink RX8 145 "TaxEngineModel" "credits" "I", Cond.fieldLink RX8 62 "TaxEngineModel" "best" "[I", Cond.fieldLink RX8 59 "TaxEngineModel" "order" "[I", Cond.methodLink RX8 151 yX8_laysOrder, Cond.instanceMethod yX8_laysOrder, Cond.selects RX8 yX8_laysOrder yX8_laysOrder, Cond.code yX8_laysOrder cX8_laysOrder 5 (some .boolean), Cond.methodLink RX8 154 yX8_comes, Cond.instanceMethod yX8_comes, Cond.selects RX8 yX8_comes yX8_comes]
def wsX8_bestSum_r4 : List Cond := [Cond.code yX8_comes cX8_comes 7 (some .int), Cond.fieldLink RX8 34 "TaxEngineModel" "credit" "[I", Cond.fieldLink RX8 37 "TaxEngineModel" "worth" "[I"]
def wsX8_bestSum : List Cond := .code yX8_bestSum cX8_bestSum 2 (some .int) :: ((wsX8_bestSum_r1 ++ (wsX8_bestSum_r2 ++ (wsX8_bestSum_r3 ++ wsX8_bestSum_r4))) ++ wsX80)
def wsJ9_max_7cf53 : List Cond := .code yJ9_max_7cf53 cJ9_max_7cf53 2 (some .int) :: ([])
def wsJ9_min_7cf53 : List Cond := .code yJ9_min_7cf53 cJ9_min_7cf53 2 (some .int) :: ([])
def wsL_define_r1 : List Cond := [Cond.classLink RL 13 "java/lang/IndexOutOfBoundsException", Cond.classLink RL 15 "java/lang/IllegalArgumentException", Cond.classLink RL 17 "java/lang/IllegalStateException", Cond.methodLink RL 7 yX7_define, Cond.instanceMethod yX7_define, Cond.selects RX7 yX7_define yX7_define, Cond.initialized RX7, Cond.code yX7_define cX7_define 9 none, Cond.classLink RX7 100 "java/lang/IllegalStateException", Cond.initialized "java/lang/IllegalStateException", Cond.fieldLink RX7 10 "TaxEngine" "sheet" "LTaxEngine$Sheet;", Cond.fieldLink RX7 19 "TaxEngine" "plan" "LTaxEngine$Plan;", Cond.methodLink RX7 67 yX7_checkLine, Cond.static yX7_checkLine, Cond.code yX7_checkLine cX7_checkLine 1 none, Cond.methodLink RX7 71 yX7_isWithin, Cond.static yX7_isWithin, Cond.code yX7_isWithin cX7_isWithin 3 (some .boolean), Cond.methodLink RX7 134 yX7_checkPlace, Cond.static yX7_checkPlace, Cond.code yX7_checkPlace cX7_checkPlace 1 none, Cond.classLink RX7 196 "java/lang/IndexOutOfBoundsException", Cond.initialized "java/lang/IndexOutOfBoundsException", Cond.methodLink RX7 75 yX7_takesFirst]
def wsL_define_r2 : List Cond := [Cond.static yX7_takesFirst, Cond.code yX7_takesFirst cX7_takesFirst 1 (some .boolean), Cond.methodLink RX7 79 yX7_takesSecond, Cond.static yX7_takesSecond, Cond.code yX7_takesSecond cX7_takesSecond 1 (some .boolean), Cond.methodLink RX7 82 yX7_checkArgument, Cond.static yX7_checkArgument, Cond.code yX7_checkArgument cX7_checkArgument 1 none, Cond.classLink RX7 199 "java/lang/IllegalArgumentException", Cond.initialized "java/lang/IllegalArgumentException", Cond.methodLink RX7 86 yX5_kind, Cond.instanceMethod yX5_kind, Cond.selects RX5 yX5_kind yX5_kind, Cond.initialized RX5, Cond.code yX5_kind cX5_kind 2 (some .int), Cond.fieldLink RX5 9 "TaxEngine$Sheet" "kinds" "[I", Cond.static yX7_at, Cond.code yX7_at cX7_at 2 (some .int), Cond.methodLink RX7 90 yX5_first, Cond.instanceMethod yX5_first, Cond.selects RX5 yX5_first yX5_first, Cond.code yX5_first cX5_first 2 (some .int), Cond.fieldLink RX5 15 "TaxEngine$Sheet" "firsts" "[I", Cond.methodLink RX7 93 yX5_second]
def wsL_define_r3 : List Cond := [Cond.instanceMethod yX5_second, Cond.selects RX5 yX5_second yX5_second, Cond.code yX5_second cX5_second 2 (some .int), Cond.fieldLink RX5 18 "TaxEngine$Sheet" "seconds" "[I", Cond.methodLink RX7 96 yX5_set, Cond.instanceMethod yX5_set, Cond.selects RX5 yX5_set yX5_set, Cond.code yX5_set cX5_set 5 none, Cond.static yX7_put, Cond.code yX7_put cX7_put 3 none, Cond.methodLink RX7 63 yX4_make, Cond.instanceMethod yX4_make, Cond.selects RX4 yX4_make yX4_make, Cond.initialized RX4, Cond.code yX4_make cX4_make 4 (some .boolean), Cond.fieldLink RX4 28 "TaxEngine$Plan" "size" "I", Cond.fieldLink RX4 32 "TaxEngine$Plan" "placed" "I", Cond.constant RX4 35 (65535), Cond.methodLink RX4 21 yX4_findReach, Cond.instanceMethod yX4_findReach, Cond.selects RX4 yX4_findReach yX4_findReach, Cond.code yX4_findReach cX4_findReach 4 none, Cond.fieldLink RX4 9 "TaxEngine$Plan" "reach" "[I", Cond.methodLink RX4 68 yX5_uses]
def wsL_define_r4 : List Cond := [Cond.instanceMethod yX5_uses, Cond.selects RX5 yX5_uses yX5_uses, Cond.code yX5_uses cX5_uses 4 (some .int), Cond.methodLink RX5 32 yX5_kind, Cond.methodLink RX5 40 yX5_first, Cond.static yX7_bit, Cond.code yX7_bit cX7_bit 1 (some .int), Cond.methodLink RX5 49 yX5_second, Cond.methodLink RX4 59 yX4_reach, Cond.instanceMethod yX4_reach, Cond.selects RX4 yX4_reach yX4_reach, Cond.code yX4_reach cX4_reach 2 (some .int), Cond.static yX7_has, Cond.code yX7_has cX7_has 2 (some .boolean), Cond.methodLink RX7 202 yX7_bit, Cond.methodLink RX4 25 yX4_findGroups, Cond.instanceMethod yX4_findGroups, Cond.selects RX4 yX4_findGroups yX4_findGroups, Cond.code yX4_findGroups cX4_findGroups 4 none, Cond.fieldLink RX4 15 "TaxEngine$Plan" "groups" "[I", Cond.methodLink RX4 36 yX4_isReady, Cond.instanceMethod yX4_isReady, Cond.selects RX4 yX4_isReady yX4_isReady, Cond.code yX4_isReady cX4_isReady 2 (some .boolean)]
def wsL_define_r5 : List Cond := [Cond.methodLink RX4 47 yX4_groupOf, Cond.instanceMethod yX4_groupOf, Cond.selects RX4 yX4_groupOf yX4_groupOf, Cond.code yX4_groupOf cX4_groupOf 2 (some .int), Cond.methodLink RX4 40 yX4_isCircular, Cond.instanceMethod yX4_isCircular, Cond.selects RX4 yX4_isCircular yX4_isCircular, Cond.code yX4_isCircular cX4_isCircular 2 (some .boolean), Cond.methodLink RX4 43 yX4_place, Cond.instanceMethod yX4_place, Cond.selects RX4 yX4_place yX4_place, Cond.code yX4_place cX4_place 2 none, Cond.fieldLink RX4 18 "TaxEngine$Plan" "order" "[I", Cond.methodLink RX4 51 yX4_placeCircle, Cond.instanceMethod yX4_placeCircle, Cond.selects RX4 yX4_placeCircle yX4_placeCircle, Cond.code yX4_placeCircle cX4_placeCircle 6 (some .boolean), Cond.fieldLink RX4 87 "TaxEngine$Plan" "rising" "I", Cond.fieldLink RX4 90 "TaxEngine$Plan" "falling" "I", Cond.methodLink RX4 80 yX4_onlyLimit, Cond.instanceMethod yX4_onlyLimit, Cond.selects RX4 yX4_onlyLimit yX4_onlyLimit, Cond.code yX4_onlyLimit cX4_onlyLimit 5 (some .int), Cond.methodLink RX4 100 yX5_kind]
def wsL_define_r6 : List Cond := [Cond.methodLink RX4 84 yX5_first, Cond.methodLink RX4 93 yX4_direct, Cond.instanceMethod yX4_direct, Cond.selects RX4 yX4_direct yX4_direct, Cond.code yX4_direct cX4_direct 8 none, Cond.methodLink RX4 97 yX5_second]
def wsL_define : List Cond := .codeWith yL_define cL_define 6 (some .int) [(0, 9, 12, 13), (0, 9, 16, 15), (0, 9, 20, 17)] :: ((wsL_define_r1 ++ (wsL_define_r2 ++ (wsL_define_r3 ++ (wsL_define_r4 ++ (wsL_define_r5 ++ wsL_define_r6))))) ++ wsX70 ++ wsX50 ++ wsX40 ++ (vx_at0 RX7 102 "java/lang/IllegalStateException" ["java/lang/RuntimeException", "java/lang/Exception"]).filter goodWord ++ (vx_at0 RX7 198 "java/lang/IndexOutOfBoundsException" ["java/lang/RuntimeException", "java/lang/Exception"]).filter goodWord ++ (vx_at0 RX7 201 "java/lang/IllegalArgumentException" ["java/lang/RuntimeException", "java/lang/Exception"]).filter goodWord)
def wsL_answer_r1 : List Cond := [Cond.classLink RL 13 "java/lang/IndexOutOfBoundsException", Cond.classLink RL 15 "java/lang/IllegalArgumentException", Cond.methodLink RL 19 yX7_answer, Cond.instanceMethod yX7_answer, Cond.selects RX7 yX7_answer yX7_answer, Cond.initialized RX7, Cond.code yX7_answer cX7_answer 4 (some .int), Cond.constant RX7 103 (1000000), Cond.fieldLink RX7 10 "TaxEngine" "sheet" "LTaxEngine$Sheet;", Cond.methodLink RX7 67 yX7_checkLine, Cond.static yX7_checkLine, Cond.code yX7_checkLine cX7_checkLine 1 none, Cond.methodLink RX7 71 yX7_isWithin, Cond.static yX7_isWithin, Cond.code yX7_isWithin cX7_isWithin 3 (some .boolean), Cond.methodLink RX7 134 yX7_checkPlace, Cond.static yX7_checkPlace, Cond.code yX7_checkPlace cX7_checkPlace 1 none, Cond.classLink RX7 196 "java/lang/IndexOutOfBoundsException", Cond.initialized "java/lang/IndexOutOfBoundsException", Cond.methodLink RX7 82 yX7_checkArgument, Cond.static yX7_checkArgument, Cond.code yX7_checkArgument cX7_checkArgument 1 none, Cond.classLink RX7 199 "java/lang/IllegalArgumentException"]
def wsL_answer_r2 : List Cond := [Cond.initialized "java/lang/IllegalArgumentException", Cond.methodLink RX7 104 yX5_given, Cond.instanceMethod yX5_given, Cond.selects RX5 yX5_given yX5_given, Cond.initialized RX5, Cond.code yX5_given cX5_given 2 (some .int), Cond.fieldLink RX5 21 "TaxEngine$Sheet" "answers" "[I", Cond.static yX7_at, Cond.code yX7_at cX7_at 2 (some .int), Cond.methodLink RX7 107 yX5_give, Cond.instanceMethod yX5_give, Cond.selects RX5 yX5_give yX5_give, Cond.code yX5_give cX5_give 3 none, Cond.static yX7_put, Cond.code yX7_put cX7_put 3 none]
def wsL_answer : List Cond := .codeWith yL_answer cL_answer 5 (some .int) [(0, 10, 13, 13), (0, 10, 17, 15)] :: ((wsL_answer_r1 ++ wsL_answer_r2) ++ wsX70 ++ wsX50 ++ (vx_at0 RX7 198 "java/lang/IndexOutOfBoundsException" ["java/lang/RuntimeException", "java/lang/Exception"]).filter goodWord ++ (vx_at0 RX7 201 "java/lang/IllegalArgumentException" ["java/lang/RuntimeException", "java/lang/Exception"]).filter goodWord)
def wsL_kindOf_r1 : List Cond := [Cond.classLink RL 13 "java/lang/IndexOutOfBoundsException", Cond.methodLink RL 23 yX7_kindOf, Cond.instanceMethod yX7_kindOf, Cond.selects RX7 yX7_kindOf yX7_kindOf, Cond.initialized RX7, Cond.code yX7_kindOf cX7_kindOf 2 (some .int), Cond.fieldLink RX7 10 "TaxEngine" "sheet" "LTaxEngine$Sheet;", Cond.methodLink RX7 67 yX7_checkLine, Cond.static yX7_checkLine, Cond.code yX7_checkLine cX7_checkLine 1 none, Cond.methodLink RX7 71 yX7_isWithin, Cond.static yX7_isWithin, Cond.code yX7_isWithin cX7_isWithin 3 (some .boolean), Cond.methodLink RX7 134 yX7_checkPlace, Cond.static yX7_checkPlace, Cond.code yX7_checkPlace cX7_checkPlace 1 none, Cond.classLink RX7 196 "java/lang/IndexOutOfBoundsException", Cond.initialized "java/lang/IndexOutOfBoundsException", Cond.methodLink RX7 86 yX5_kind, Cond.instanceMethod yX5_kind, Cond.selects RX5 yX5_kind yX5_kind, Cond.initialized RX5, Cond.code yX5_kind cX5_kind 2 (some .int), Cond.fieldLink RX5 9 "TaxEngine$Sheet" "kinds" "[I"]
def wsL_kindOf_r2 : List Cond := [Cond.static yX7_at, Cond.code yX7_at cX7_at 2 (some .int)]
def wsL_kindOf : List Cond := .codeWith yL_kindOf cL_kindOf 4 (some .int) [(0, 9, 12, 13)] :: ((wsL_kindOf_r1 ++ wsL_kindOf_r2) ++ wsX70 ++ wsX50 ++ (vx_at0 RX7 198 "java/lang/IndexOutOfBoundsException" ["java/lang/RuntimeException", "java/lang/Exception"]).filter goodWord)
def wsL_value_r1 : List Cond := [Cond.classLink RL 13 "java/lang/IndexOutOfBoundsException", Cond.methodLink RL 27 yX7_value, Cond.instanceMethod yX7_value, Cond.selects RX7 yX7_value yX7_value, Cond.initialized RX7, Cond.code yX7_value cX7_value 2 (some .int), Cond.fieldLink RX7 49 "TaxEngine" "values" "LTaxEngine$Values;", Cond.methodLink RX7 67 yX7_checkLine, Cond.static yX7_checkLine, Cond.code yX7_checkLine cX7_checkLine 1 none, Cond.methodLink RX7 71 yX7_isWithin, Cond.static yX7_isWithin, Cond.code yX7_isWithin cX7_isWithin 3 (some .boolean), Cond.methodLink RX7 134 yX7_checkPlace, Cond.static yX7_checkPlace, Cond.code yX7_checkPlace cX7_checkPlace 1 none, Cond.classLink RX7 196 "java/lang/IndexOutOfBoundsException", Cond.initialized "java/lang/IndexOutOfBoundsException", Cond.methodLink RX7 111 yX6_workOut, Cond.instanceMethod yX6_workOut, Cond.selects RX6 yX6_workOut yX6_workOut, Cond.initialized RX6, Cond.code yX6_workOut cX6_workOut 5 none, Cond.fieldLink RX6 15 "TaxEngine$Values" "raised" "I"]
def wsL_value_r2 : List Cond := [Cond.fieldLink RX6 23 "TaxEngine$Values" "plan" "LTaxEngine$Plan;", Cond.fieldLink RX6 19 "TaxEngine$Values" "sheet" "LTaxEngine$Sheet;", Cond.fieldLink RX6 9 "TaxEngine$Values" "numbers" "[I", Cond.methodLink RX6 39 yX4_lineAt, Cond.instanceMethod yX4_lineAt, Cond.selects RX4 yX4_lineAt yX4_lineAt, Cond.initialized RX4, Cond.code yX4_lineAt cX4_lineAt 2 (some .int), Cond.fieldLink RX4 18 "TaxEngine$Plan" "order" "[I", Cond.static yX7_at, Cond.code yX7_at cX7_at 2 (some .int), Cond.methodLink RX6 45 yX5_kind, Cond.instanceMethod yX5_kind, Cond.selects RX5 yX5_kind yX5_kind, Cond.initialized RX5, Cond.code yX5_kind cX5_kind 2 (some .int), Cond.fieldLink RX5 9 "TaxEngine$Sheet" "kinds" "[I", Cond.methodLink RX6 50 yX4_isCircular, Cond.instanceMethod yX4_isCircular, Cond.selects RX4 yX4_isCircular yX4_isCircular, Cond.code yX4_isCircular cX4_isCircular 2 (some .boolean), Cond.methodLink RX4 59 yX4_reach, Cond.instanceMethod yX4_reach, Cond.selects RX4 yX4_reach yX4_reach]
def wsL_value_r3 : List Cond := [Cond.code yX4_reach cX4_reach 2 (some .int), Cond.fieldLink RX4 9 "TaxEngine$Plan" "reach" "[I", Cond.static yX7_has, Cond.code yX7_has cX7_has 2 (some .boolean), Cond.methodLink RX7 202 yX7_bit, Cond.static yX7_bit, Cond.code yX7_bit cX7_bit 1 (some .int), Cond.methodLink RX6 54 yX6_greatest, Cond.instanceMethod yX6_greatest, Cond.selects RX6 yX6_greatest yX6_greatest, Cond.code yX6_greatest cX6_greatest 7 (some .int), Cond.methodLink RX6 72 yX5_first, Cond.instanceMethod yX5_first, Cond.selects RX5 yX5_first yX5_first, Cond.code yX5_first cX5_first 2 (some .int), Cond.fieldLink RX5 15 "TaxEngine$Sheet" "firsts" "[I", Cond.methodLink RX6 75 yX6_of, Cond.instanceMethod yX6_of, Cond.selects RX6 yX6_of yX6_of, Cond.code yX6_of cX6_of 2 (some .int), Cond.methodLink RX6 78 yX6_suppose, Cond.instanceMethod yX6_suppose, Cond.selects RX6 yX6_suppose yX6_suppose, Cond.code yX6_suppose cX6_suppose 7 none]
def wsL_value_r4 : List Cond := [Cond.static yX7_put, Cond.code yX7_put cX7_put 3 none, Cond.methodLink RX6 64 yX4_groupOf, Cond.instanceMethod yX4_groupOf, Cond.selects RX4 yX4_groupOf yX4_groupOf, Cond.code yX4_groupOf cX4_groupOf 2 (some .int), Cond.fieldLink RX4 15 "TaxEngine$Plan" "groups" "[I", Cond.methodLink RX6 67 yJ6_bitCount_0f7a4, Cond.static yJ6_bitCount_0f7a4, Cond.initialized RJ6, Cond.code yJ6_bitCount_0f7a4 cJ6_bitCount_0f7a4 1 (some .int), Cond.constant RJ6 265 (1431655765), Cond.constant RJ6 266 (858993459), Cond.constant RJ6 267 (252645135), Cond.methodLink RX6 57 yX6_plain, Cond.instanceMethod yX6_plain, Cond.selects RX6 yX6_plain yX6_plain, Cond.code yX6_plain cX6_plain 4 (some .int), Cond.constant RX6 85 (1000000000), Cond.methodLink RX6 86 Lib.Math.min.name, Cond.static Lib.Math.min.name, Cond.initialized "java/lang/Math", Cond.code Lib.Math.min.name Lib.Math.min.code 2 (some .int), Cond.methodLink RX6 92 Lib.Math.max.name]
def wsL_value_r5 : List Cond := [Cond.static Lib.Math.max.name, Cond.code Lib.Math.max.name Lib.Math.max.code 2 (some .int), Cond.fieldLink RX6 27 "TaxEngine$Values" "brackets" "LTaxEngine$Brackets;", Cond.fieldLink RX6 31 "TaxEngine$Values" "amounts" "LTaxEngine$Amounts;", Cond.methodLink RX6 82 yX5_second, Cond.instanceMethod yX5_second, Cond.selects RX5 yX5_second yX5_second, Cond.code yX5_second cX5_second 2 (some .int), Cond.fieldLink RX5 18 "TaxEngine$Sheet" "seconds" "[I", Cond.static yX7_thousandths, Cond.code yX7_thousandths cX7_thousandths 2 (some .int), Cond.constantLong RX7 205 (1000), Cond.methodLink RX6 98 yX1_tax, Cond.instanceMethod yX1_tax, Cond.selects RX1 yX1_tax yX1_tax, Cond.initialized RX1, Cond.code yX1_tax cX1_tax 6 (some .int), Cond.fieldLink RX1 18 "TaxEngine$Brackets" "count" "I", Cond.fieldLink RX1 9 "TaxEngine$Brackets" "thresholds" "[I", Cond.methodLink RX1 38 Lib.Math.min.name, Cond.methodLink RX1 44 Lib.Math.max.name, Cond.fieldLink RX1 15 "TaxEngine$Brackets" "rates" "[I", Cond.methodLink RX6 103 yX0_total, Cond.instanceMethod yX0_total]
def wsL_value_r6 : List Cond := [Cond.selects RX0 yX0_total yX0_total, Cond.initialized RX0, Cond.code yX0_total cX0_total 3 (some .int), Cond.fieldLink RX0 22 "TaxEngine$Amounts" "count" "I", Cond.methodLink RX0 29 yX0_leftAt, Cond.instanceMethod yX0_leftAt, Cond.selects RX0 yX0_leftAt yX0_leftAt, Cond.code yX0_leftAt cX0_leftAt 2 (some .int), Cond.fieldLink RX0 9 "TaxEngine$Amounts" "lefts" "[I", Cond.methodLink RX6 109 yX5_given, Cond.instanceMethod yX5_given, Cond.selects RX5 yX5_given yX5_given, Cond.code yX5_given cX5_given 2 (some .int), Cond.fieldLink RX5 21 "TaxEngine$Sheet" "answers" "[I", Cond.methodLink RX7 114 yX6_of]
def wsL_value : List Cond := .codeWith yL_value cL_value 4 (some .int) [(0, 9, 12, 13)] :: ((wsL_value_r1 ++ (wsL_value_r2 ++ (wsL_value_r3 ++ (wsL_value_r4 ++ (wsL_value_r5 ++ wsL_value_r6))))) ++ wsX70 ++ wsX60 ++ wsX40 ++ wsX50 ++ wsX10 ++ wsX00 ++ (vx_at0 RX7 198 "java/lang/IndexOutOfBoundsException" ["java/lang/RuntimeException", "java/lang/Exception"]).filter goodWord)
def wsL_boundFor_r1 : List Cond := [Cond.classLink RL 13 "java/lang/IndexOutOfBoundsException", Cond.classLink RL 15 "java/lang/IllegalArgumentException", Cond.classLink RL 17 "java/lang/IllegalStateException", Cond.methodLink RL 30 yX7_boundFor, Cond.instanceMethod yX7_boundFor, Cond.selects RX7 yX7_boundFor yX7_boundFor, Cond.initialized RX7, Cond.code yX7_boundFor cX7_boundFor 3 (some .int), Cond.constant RX7 117 (1000000000), Cond.fieldLink RX7 10 "TaxEngine" "sheet" "LTaxEngine$Sheet;", Cond.fieldLink RX7 49 "TaxEngine" "values" "LTaxEngine$Values;", Cond.fieldLink RX7 19 "TaxEngine" "plan" "LTaxEngine$Plan;", Cond.methodLink RX7 67 yX7_checkLine, Cond.static yX7_checkLine, Cond.code yX7_checkLine cX7_checkLine 1 none, Cond.methodLink RX7 71 yX7_isWithin, Cond.static yX7_isWithin, Cond.code yX7_isWithin cX7_isWithin 3 (some .boolean), Cond.methodLink RX7 134 yX7_checkPlace, Cond.static yX7_checkPlace, Cond.code yX7_checkPlace cX7_checkPlace 1 none, Cond.classLink RX7 196 "java/lang/IndexOutOfBoundsException", Cond.initialized "java/lang/IndexOutOfBoundsException", Cond.methodLink RX7 82 yX7_checkArgument]
def wsL_boundFor_r2 : List Cond := [Cond.static yX7_checkArgument, Cond.code yX7_checkArgument cX7_checkArgument 1 none, Cond.classLink RX7 199 "java/lang/IllegalArgumentException", Cond.initialized "java/lang/IllegalArgumentException", Cond.methodLink RX7 86 yX5_kind, Cond.instanceMethod yX5_kind, Cond.selects RX5 yX5_kind yX5_kind, Cond.initialized RX5, Cond.code yX5_kind cX5_kind 2 (some .int), Cond.fieldLink RX5 9 "TaxEngine$Sheet" "kinds" "[I", Cond.static yX7_at, Cond.code yX7_at cX7_at 2 (some .int), Cond.methodLink RX7 118 yX7_checkState, Cond.static yX7_checkState, Cond.code yX7_checkState cX7_checkState 1 none, Cond.classLink RX7 100 "java/lang/IllegalStateException", Cond.initialized "java/lang/IllegalStateException", Cond.methodLink RX7 111 yX6_workOut, Cond.instanceMethod yX6_workOut, Cond.selects RX6 yX6_workOut yX6_workOut, Cond.initialized RX6, Cond.code yX6_workOut cX6_workOut 5 none, Cond.fieldLink RX6 15 "TaxEngine$Values" "raised" "I", Cond.fieldLink RX6 23 "TaxEngine$Values" "plan" "LTaxEngine$Plan;"]
def wsL_boundFor_r3 : List Cond := [Cond.fieldLink RX6 19 "TaxEngine$Values" "sheet" "LTaxEngine$Sheet;", Cond.fieldLink RX6 9 "TaxEngine$Values" "numbers" "[I", Cond.methodLink RX6 39 yX4_lineAt, Cond.instanceMethod yX4_lineAt, Cond.selects RX4 yX4_lineAt yX4_lineAt, Cond.initialized RX4, Cond.code yX4_lineAt cX4_lineAt 2 (some .int), Cond.fieldLink RX4 18 "TaxEngine$Plan" "order" "[I", Cond.methodLink RX6 45 yX5_kind, Cond.methodLink RX6 50 yX4_isCircular, Cond.instanceMethod yX4_isCircular, Cond.selects RX4 yX4_isCircular yX4_isCircular, Cond.code yX4_isCircular cX4_isCircular 2 (some .boolean), Cond.methodLink RX4 59 yX4_reach, Cond.instanceMethod yX4_reach, Cond.selects RX4 yX4_reach yX4_reach, Cond.code yX4_reach cX4_reach 2 (some .int), Cond.fieldLink RX4 9 "TaxEngine$Plan" "reach" "[I", Cond.static yX7_has, Cond.code yX7_has cX7_has 2 (some .boolean), Cond.methodLink RX7 202 yX7_bit, Cond.static yX7_bit, Cond.code yX7_bit cX7_bit 1 (some .int), Cond.methodLink RX6 54 yX6_greatest]
def wsL_boundFor_r4 : List Cond := [Cond.instanceMethod yX6_greatest, Cond.selects RX6 yX6_greatest yX6_greatest, Cond.code yX6_greatest cX6_greatest 7 (some .int), Cond.methodLink RX6 72 yX5_first, Cond.instanceMethod yX5_first, Cond.selects RX5 yX5_first yX5_first, Cond.code yX5_first cX5_first 2 (some .int), Cond.fieldLink RX5 15 "TaxEngine$Sheet" "firsts" "[I", Cond.methodLink RX6 75 yX6_of, Cond.instanceMethod yX6_of, Cond.selects RX6 yX6_of yX6_of, Cond.code yX6_of cX6_of 2 (some .int), Cond.methodLink RX6 78 yX6_suppose, Cond.instanceMethod yX6_suppose, Cond.selects RX6 yX6_suppose yX6_suppose, Cond.code yX6_suppose cX6_suppose 7 none, Cond.static yX7_put, Cond.code yX7_put cX7_put 3 none, Cond.methodLink RX6 64 yX4_groupOf, Cond.instanceMethod yX4_groupOf, Cond.selects RX4 yX4_groupOf yX4_groupOf, Cond.code yX4_groupOf cX4_groupOf 2 (some .int), Cond.fieldLink RX4 15 "TaxEngine$Plan" "groups" "[I", Cond.methodLink RX6 67 yJ6_bitCount_0f7a4]
def wsL_boundFor_r5 : List Cond := [Cond.static yJ6_bitCount_0f7a4, Cond.initialized RJ6, Cond.code yJ6_bitCount_0f7a4 cJ6_bitCount_0f7a4 1 (some .int), Cond.constant RJ6 265 (1431655765), Cond.constant RJ6 266 (858993459), Cond.constant RJ6 267 (252645135), Cond.methodLink RX6 57 yX6_plain, Cond.instanceMethod yX6_plain, Cond.selects RX6 yX6_plain yX6_plain, Cond.code yX6_plain cX6_plain 4 (some .int), Cond.constant RX6 85 (1000000000), Cond.methodLink RX6 86 Lib.Math.min.name, Cond.static Lib.Math.min.name, Cond.initialized "java/lang/Math", Cond.code Lib.Math.min.name Lib.Math.min.code 2 (some .int), Cond.methodLink RX6 92 Lib.Math.max.name, Cond.static Lib.Math.max.name, Cond.code Lib.Math.max.name Lib.Math.max.code 2 (some .int), Cond.fieldLink RX6 27 "TaxEngine$Values" "brackets" "LTaxEngine$Brackets;", Cond.fieldLink RX6 31 "TaxEngine$Values" "amounts" "LTaxEngine$Amounts;", Cond.methodLink RX6 82 yX5_second, Cond.instanceMethod yX5_second, Cond.selects RX5 yX5_second yX5_second, Cond.code yX5_second cX5_second 2 (some .int)]
def wsL_boundFor_r6 : List Cond := [Cond.fieldLink RX5 18 "TaxEngine$Sheet" "seconds" "[I", Cond.static yX7_thousandths, Cond.code yX7_thousandths cX7_thousandths 2 (some .int), Cond.constantLong RX7 205 (1000), Cond.methodLink RX6 98 yX1_tax, Cond.instanceMethod yX1_tax, Cond.selects RX1 yX1_tax yX1_tax, Cond.initialized RX1, Cond.code yX1_tax cX1_tax 6 (some .int), Cond.fieldLink RX1 18 "TaxEngine$Brackets" "count" "I", Cond.fieldLink RX1 9 "TaxEngine$Brackets" "thresholds" "[I", Cond.methodLink RX1 38 Lib.Math.min.name, Cond.methodLink RX1 44 Lib.Math.max.name, Cond.fieldLink RX1 15 "TaxEngine$Brackets" "rates" "[I", Cond.methodLink RX6 103 yX0_total, Cond.instanceMethod yX0_total, Cond.selects RX0 yX0_total yX0_total, Cond.initialized RX0, Cond.code yX0_total cX0_total 3 (some .int), Cond.fieldLink RX0 22 "TaxEngine$Amounts" "count" "I", Cond.methodLink RX0 29 yX0_leftAt, Cond.instanceMethod yX0_leftAt, Cond.selects RX0 yX0_leftAt yX0_leftAt, Cond.code yX0_leftAt cX0_leftAt 2 (some .int)]
def wsL_boundFor_r7 : List Cond := [Cond.fieldLink RX0 9 "TaxEngine$Amounts" "lefts" "[I", Cond.methodLink RX6 109 yX5_given, Cond.instanceMethod yX5_given, Cond.selects RX5 yX5_given yX5_given, Cond.code yX5_given cX5_given 2 (some .int), Cond.fieldLink RX5 21 "TaxEngine$Sheet" "answers" "[I", Cond.methodLink RX7 121 yX4_placeOf, Cond.instanceMethod yX4_placeOf, Cond.selects RX4 yX4_placeOf yX4_placeOf, Cond.code yX4_placeOf cX4_placeOf 3 (some .int), Cond.methodLink RX4 65 yX4_lineAt, Cond.methodLink RX7 124 yX6_suppose, Cond.methodLink RX7 93 yX5_second, Cond.methodLink RX7 114 yX6_of]
def wsL_boundFor : List Cond := .codeWith yL_boundFor cL_boundFor 5 (some .int) [(0, 10, 13, 13), (0, 10, 17, 15), (0, 10, 21, 17)] :: ((wsL_boundFor_r1 ++ (wsL_boundFor_r2 ++ (wsL_boundFor_r3 ++ (wsL_boundFor_r4 ++ (wsL_boundFor_r5 ++ (wsL_boundFor_r6 ++ wsL_boundFor_r7)))))) ++ wsX70 ++ wsX50 ++ wsX60 ++ wsX40 ++ wsX10 ++ wsX00 ++ (vx_at0 RX7 198 "java/lang/IndexOutOfBoundsException" ["java/lang/RuntimeException", "java/lang/Exception"]).filter goodWord ++ (vx_at0 RX7 201 "java/lang/IllegalArgumentException" ["java/lang/RuntimeException", "java/lang/Exception"]).filter goodWord ++ (vx_at0 RX7 102 "java/lang/IllegalStateException" ["java/lang/RuntimeException", "java/lang/Exception"]).filter goodWord)
def wsL_dependsOn_r1 : List Cond := [Cond.classLink RL 13 "java/lang/IndexOutOfBoundsException", Cond.methodLink RL 33 yX7_dependsOn, Cond.instanceMethod yX7_dependsOn, Cond.selects RX7 yX7_dependsOn yX7_dependsOn, Cond.initialized RX7, Cond.code yX7_dependsOn cX7_dependsOn 3 (some .boolean), Cond.fieldLink RX7 19 "TaxEngine" "plan" "LTaxEngine$Plan;", Cond.methodLink RX7 67 yX7_checkLine, Cond.static yX7_checkLine, Cond.code yX7_checkLine cX7_checkLine 1 none, Cond.methodLink RX7 71 yX7_isWithin, Cond.static yX7_isWithin, Cond.code yX7_isWithin cX7_isWithin 3 (some .boolean), Cond.methodLink RX7 134 yX7_checkPlace, Cond.static yX7_checkPlace, Cond.code yX7_checkPlace cX7_checkPlace 1 none, Cond.classLink RX7 196 "java/lang/IndexOutOfBoundsException", Cond.initialized "java/lang/IndexOutOfBoundsException", Cond.methodLink RX7 127 yX4_reach, Cond.instanceMethod yX4_reach, Cond.selects RX4 yX4_reach yX4_reach, Cond.initialized RX4, Cond.code yX4_reach cX4_reach 2 (some .int), Cond.fieldLink RX4 9 "TaxEngine$Plan" "reach" "[I"]
def wsL_dependsOn_r2 : List Cond := [Cond.static yX7_at, Cond.code yX7_at cX7_at 2 (some .int), Cond.methodLink RX7 130 yX7_has, Cond.static yX7_has, Cond.code yX7_has cX7_has 2 (some .boolean), Cond.methodLink RX7 202 yX7_bit, Cond.static yX7_bit, Cond.code yX7_bit cX7_bit 1 (some .int)]
def wsL_dependsOn : List Cond := .codeWith yL_dependsOn cL_dependsOn 5 (some .int) [(0, 17, 20, 13)] :: ((wsL_dependsOn_r1 ++ wsL_dependsOn_r2) ++ wsX70 ++ wsX40 ++ (vx_at0 RX7 198 "java/lang/IndexOutOfBoundsException" ["java/lang/RuntimeException", "java/lang/Exception"]).filter goodWord)
def wsL_influence_r1 : List Cond := [Cond.classLink RL 13 "java/lang/IndexOutOfBoundsException", Cond.methodLink RL 37 yX7_influence, Cond.instanceMethod yX7_influence, Cond.selects RX7 yX7_influence yX7_influence, Cond.initialized RX7, Cond.code yX7_influence cX7_influence 4 (some .int), Cond.fieldLink RX7 10 "TaxEngine" "sheet" "LTaxEngine$Sheet;", Cond.fieldLink RX7 49 "TaxEngine" "values" "LTaxEngine$Values;", Cond.fieldLink RX7 53 "TaxEngine" "raisedValues" "LTaxEngine$Values;", Cond.methodLink RX7 67 yX7_checkLine, Cond.static yX7_checkLine, Cond.code yX7_checkLine cX7_checkLine 1 none, Cond.methodLink RX7 71 yX7_isWithin, Cond.static yX7_isWithin, Cond.code yX7_isWithin cX7_isWithin 3 (some .boolean), Cond.methodLink RX7 134 yX7_checkPlace, Cond.static yX7_checkPlace, Cond.code yX7_checkPlace cX7_checkPlace 1 none, Cond.classLink RX7 196 "java/lang/IndexOutOfBoundsException", Cond.initialized "java/lang/IndexOutOfBoundsException", Cond.methodLink RX7 86 yX5_kind, Cond.instanceMethod yX5_kind, Cond.selects RX5 yX5_kind yX5_kind, Cond.initialized RX5]
def wsL_influence_r2 : List Cond := [Cond.code yX5_kind cX5_kind 2 (some .int), Cond.fieldLink RX5 9 "TaxEngine$Sheet" "kinds" "[I", Cond.static yX7_at, Cond.code yX7_at cX7_at 2 (some .int), Cond.methodLink RX7 111 yX6_workOut, Cond.instanceMethod yX6_workOut, Cond.selects RX6 yX6_workOut yX6_workOut, Cond.initialized RX6, Cond.code yX6_workOut cX6_workOut 5 none, Cond.fieldLink RX6 15 "TaxEngine$Values" "raised" "I", Cond.fieldLink RX6 23 "TaxEngine$Values" "plan" "LTaxEngine$Plan;", Cond.fieldLink RX6 19 "TaxEngine$Values" "sheet" "LTaxEngine$Sheet;", Cond.fieldLink RX6 9 "TaxEngine$Values" "numbers" "[I", Cond.methodLink RX6 39 yX4_lineAt, Cond.instanceMethod yX4_lineAt, Cond.selects RX4 yX4_lineAt yX4_lineAt, Cond.initialized RX4, Cond.code yX4_lineAt cX4_lineAt 2 (some .int), Cond.fieldLink RX4 18 "TaxEngine$Plan" "order" "[I", Cond.methodLink RX6 45 yX5_kind, Cond.methodLink RX6 50 yX4_isCircular, Cond.instanceMethod yX4_isCircular, Cond.selects RX4 yX4_isCircular yX4_isCircular, Cond.code yX4_isCircular cX4_isCircular 2 (some .boolean)]
def wsL_influence_r3 : List Cond := [Cond.methodLink RX4 59 yX4_reach, Cond.instanceMethod yX4_reach, Cond.selects RX4 yX4_reach yX4_reach, Cond.code yX4_reach cX4_reach 2 (some .int), Cond.fieldLink RX4 9 "TaxEngine$Plan" "reach" "[I", Cond.static yX7_has, Cond.code yX7_has cX7_has 2 (some .boolean), Cond.methodLink RX7 202 yX7_bit, Cond.static yX7_bit, Cond.code yX7_bit cX7_bit 1 (some .int), Cond.methodLink RX6 54 yX6_greatest, Cond.instanceMethod yX6_greatest, Cond.selects RX6 yX6_greatest yX6_greatest, Cond.code yX6_greatest cX6_greatest 7 (some .int), Cond.methodLink RX6 72 yX5_first, Cond.instanceMethod yX5_first, Cond.selects RX5 yX5_first yX5_first, Cond.code yX5_first cX5_first 2 (some .int), Cond.fieldLink RX5 15 "TaxEngine$Sheet" "firsts" "[I", Cond.methodLink RX6 75 yX6_of, Cond.instanceMethod yX6_of, Cond.selects RX6 yX6_of yX6_of, Cond.code yX6_of cX6_of 2 (some .int), Cond.methodLink RX6 78 yX6_suppose]
def wsL_influence_r4 : List Cond := [Cond.instanceMethod yX6_suppose, Cond.selects RX6 yX6_suppose yX6_suppose, Cond.code yX6_suppose cX6_suppose 7 none, Cond.static yX7_put, Cond.code yX7_put cX7_put 3 none, Cond.methodLink RX6 64 yX4_groupOf, Cond.instanceMethod yX4_groupOf, Cond.selects RX4 yX4_groupOf yX4_groupOf, Cond.code yX4_groupOf cX4_groupOf 2 (some .int), Cond.fieldLink RX4 15 "TaxEngine$Plan" "groups" "[I", Cond.methodLink RX6 67 yJ6_bitCount_0f7a4, Cond.static yJ6_bitCount_0f7a4, Cond.initialized RJ6, Cond.code yJ6_bitCount_0f7a4 cJ6_bitCount_0f7a4 1 (some .int), Cond.constant RJ6 265 (1431655765), Cond.constant RJ6 266 (858993459), Cond.constant RJ6 267 (252645135), Cond.methodLink RX6 57 yX6_plain, Cond.instanceMethod yX6_plain, Cond.selects RX6 yX6_plain yX6_plain, Cond.code yX6_plain cX6_plain 4 (some .int), Cond.constant RX6 85 (1000000000), Cond.methodLink RX6 86 Lib.Math.min.name, Cond.static Lib.Math.min.name]
def wsL_influence_r5 : List Cond := [Cond.initialized "java/lang/Math", Cond.code Lib.Math.min.name Lib.Math.min.code 2 (some .int), Cond.methodLink RX6 92 Lib.Math.max.name, Cond.static Lib.Math.max.name, Cond.code Lib.Math.max.name Lib.Math.max.code 2 (some .int), Cond.fieldLink RX6 27 "TaxEngine$Values" "brackets" "LTaxEngine$Brackets;", Cond.fieldLink RX6 31 "TaxEngine$Values" "amounts" "LTaxEngine$Amounts;", Cond.methodLink RX6 82 yX5_second, Cond.instanceMethod yX5_second, Cond.selects RX5 yX5_second yX5_second, Cond.code yX5_second cX5_second 2 (some .int), Cond.fieldLink RX5 18 "TaxEngine$Sheet" "seconds" "[I", Cond.static yX7_thousandths, Cond.code yX7_thousandths cX7_thousandths 2 (some .int), Cond.constantLong RX7 205 (1000), Cond.methodLink RX6 98 yX1_tax, Cond.instanceMethod yX1_tax, Cond.selects RX1 yX1_tax yX1_tax, Cond.initialized RX1, Cond.code yX1_tax cX1_tax 6 (some .int), Cond.fieldLink RX1 18 "TaxEngine$Brackets" "count" "I", Cond.fieldLink RX1 9 "TaxEngine$Brackets" "thresholds" "[I", Cond.methodLink RX1 38 Lib.Math.min.name, Cond.methodLink RX1 44 Lib.Math.max.name]
def wsL_influence_r6 : List Cond := [Cond.fieldLink RX1 15 "TaxEngine$Brackets" "rates" "[I", Cond.methodLink RX6 103 yX0_total, Cond.instanceMethod yX0_total, Cond.selects RX0 yX0_total yX0_total, Cond.initialized RX0, Cond.code yX0_total cX0_total 3 (some .int), Cond.fieldLink RX0 22 "TaxEngine$Amounts" "count" "I", Cond.methodLink RX0 29 yX0_leftAt, Cond.instanceMethod yX0_leftAt, Cond.selects RX0 yX0_leftAt yX0_leftAt, Cond.code yX0_leftAt cX0_leftAt 2 (some .int), Cond.fieldLink RX0 9 "TaxEngine$Amounts" "lefts" "[I", Cond.methodLink RX6 109 yX5_given, Cond.instanceMethod yX5_given, Cond.selects RX5 yX5_given yX5_given, Cond.code yX5_given cX5_given 2 (some .int), Cond.fieldLink RX5 21 "TaxEngine$Sheet" "answers" "[I", Cond.methodLink RX7 114 yX6_of]
def wsL_influence : List Cond := .codeWith yL_influence cL_influence 4 (some .int) [(0, 9, 12, 13)] :: ((wsL_influence_r1 ++ (wsL_influence_r2 ++ (wsL_influence_r3 ++ (wsL_influence_r4 ++ (wsL_influence_r5 ++ wsL_influence_r6))))) ++ wsX70 ++ wsX50 ++ wsX60 ++ wsX40 ++ wsX10 ++ wsX00 ++ (vx_at0 RX7 198 "java/lang/IndexOutOfBoundsException" ["java/lang/RuntimeException", "java/lang/Exception"]).filter goodWord)
def wsL_why_r1 : List Cond := [Cond.classLink RL 13 "java/lang/IndexOutOfBoundsException", Cond.methodLink RL 40 yX7_why, Cond.instanceMethod yX7_why, Cond.selects RX7 yX7_why yX7_why, Cond.initialized RX7, Cond.code yX7_why cX7_why 3 (some .int), Cond.fieldLink RX7 49 "TaxEngine" "values" "LTaxEngine$Values;", Cond.fieldLink RX7 59 "TaxEngine" "explanation" "LTaxEngine$Explanation;", Cond.fieldLink RX7 10 "TaxEngine" "sheet" "LTaxEngine$Sheet;", Cond.methodLink RX7 67 yX7_checkLine, Cond.static yX7_checkLine, Cond.code yX7_checkLine cX7_checkLine 1 none, Cond.methodLink RX7 71 yX7_isWithin, Cond.static yX7_isWithin, Cond.code yX7_isWithin cX7_isWithin 3 (some .boolean), Cond.methodLink RX7 134 yX7_checkPlace, Cond.static yX7_checkPlace, Cond.code yX7_checkPlace cX7_checkPlace 1 none, Cond.classLink RX7 196 "java/lang/IndexOutOfBoundsException", Cond.initialized "java/lang/IndexOutOfBoundsException", Cond.methodLink RX7 111 yX6_workOut, Cond.instanceMethod yX6_workOut, Cond.selects RX6 yX6_workOut yX6_workOut, Cond.initialized RX6]
def wsL_why_r2 : List Cond := [Cond.code yX6_workOut cX6_workOut 5 none, Cond.fieldLink RX6 15 "TaxEngine$Values" "raised" "I", Cond.fieldLink RX6 23 "TaxEngine$Values" "plan" "LTaxEngine$Plan;", Cond.fieldLink RX6 19 "TaxEngine$Values" "sheet" "LTaxEngine$Sheet;", Cond.fieldLink RX6 9 "TaxEngine$Values" "numbers" "[I", Cond.methodLink RX6 39 yX4_lineAt, Cond.instanceMethod yX4_lineAt, Cond.selects RX4 yX4_lineAt yX4_lineAt, Cond.initialized RX4, Cond.code yX4_lineAt cX4_lineAt 2 (some .int), Cond.fieldLink RX4 18 "TaxEngine$Plan" "order" "[I", Cond.static yX7_at, Cond.code yX7_at cX7_at 2 (some .int), Cond.methodLink RX6 45 yX5_kind, Cond.instanceMethod yX5_kind, Cond.selects RX5 yX5_kind yX5_kind, Cond.initialized RX5, Cond.code yX5_kind cX5_kind 2 (some .int), Cond.fieldLink RX5 9 "TaxEngine$Sheet" "kinds" "[I", Cond.methodLink RX6 50 yX4_isCircular, Cond.instanceMethod yX4_isCircular, Cond.selects RX4 yX4_isCircular yX4_isCircular, Cond.code yX4_isCircular cX4_isCircular 2 (some .boolean), Cond.methodLink RX4 59 yX4_reach]
def wsL_why_r3 : List Cond := [Cond.instanceMethod yX4_reach, Cond.selects RX4 yX4_reach yX4_reach, Cond.code yX4_reach cX4_reach 2 (some .int), Cond.fieldLink RX4 9 "TaxEngine$Plan" "reach" "[I", Cond.static yX7_has, Cond.code yX7_has cX7_has 2 (some .boolean), Cond.methodLink RX7 202 yX7_bit, Cond.static yX7_bit, Cond.code yX7_bit cX7_bit 1 (some .int), Cond.methodLink RX6 54 yX6_greatest, Cond.instanceMethod yX6_greatest, Cond.selects RX6 yX6_greatest yX6_greatest, Cond.code yX6_greatest cX6_greatest 7 (some .int), Cond.methodLink RX6 72 yX5_first, Cond.instanceMethod yX5_first, Cond.selects RX5 yX5_first yX5_first, Cond.code yX5_first cX5_first 2 (some .int), Cond.fieldLink RX5 15 "TaxEngine$Sheet" "firsts" "[I", Cond.methodLink RX6 75 yX6_of, Cond.instanceMethod yX6_of, Cond.selects RX6 yX6_of yX6_of, Cond.code yX6_of cX6_of 2 (some .int), Cond.methodLink RX6 78 yX6_suppose, Cond.instanceMethod yX6_suppose]
def wsL_why_r4 : List Cond := [Cond.selects RX6 yX6_suppose yX6_suppose, Cond.code yX6_suppose cX6_suppose 7 none, Cond.static yX7_put, Cond.code yX7_put cX7_put 3 none, Cond.methodLink RX6 64 yX4_groupOf, Cond.instanceMethod yX4_groupOf, Cond.selects RX4 yX4_groupOf yX4_groupOf, Cond.code yX4_groupOf cX4_groupOf 2 (some .int), Cond.fieldLink RX4 15 "TaxEngine$Plan" "groups" "[I", Cond.methodLink RX6 67 yJ6_bitCount_0f7a4, Cond.static yJ6_bitCount_0f7a4, Cond.initialized RJ6, Cond.code yJ6_bitCount_0f7a4 cJ6_bitCount_0f7a4 1 (some .int), Cond.constant RJ6 265 (1431655765), Cond.constant RJ6 266 (858993459), Cond.constant RJ6 267 (252645135), Cond.methodLink RX6 57 yX6_plain, Cond.instanceMethod yX6_plain, Cond.selects RX6 yX6_plain yX6_plain, Cond.code yX6_plain cX6_plain 4 (some .int), Cond.constant RX6 85 (1000000000), Cond.methodLink RX6 86 Lib.Math.min.name, Cond.static Lib.Math.min.name, Cond.initialized "java/lang/Math"]
def wsL_why_r5 : List Cond := [Cond.code Lib.Math.min.name Lib.Math.min.code 2 (some .int), Cond.methodLink RX6 92 Lib.Math.max.name, Cond.static Lib.Math.max.name, Cond.code Lib.Math.max.name Lib.Math.max.code 2 (some .int), Cond.fieldLink RX6 27 "TaxEngine$Values" "brackets" "LTaxEngine$Brackets;", Cond.fieldLink RX6 31 "TaxEngine$Values" "amounts" "LTaxEngine$Amounts;", Cond.methodLink RX6 82 yX5_second, Cond.instanceMethod yX5_second, Cond.selects RX5 yX5_second yX5_second, Cond.code yX5_second cX5_second 2 (some .int), Cond.fieldLink RX5 18 "TaxEngine$Sheet" "seconds" "[I", Cond.static yX7_thousandths, Cond.code yX7_thousandths cX7_thousandths 2 (some .int), Cond.constantLong RX7 205 (1000), Cond.methodLink RX6 98 yX1_tax, Cond.instanceMethod yX1_tax, Cond.selects RX1 yX1_tax yX1_tax, Cond.initialized RX1, Cond.code yX1_tax cX1_tax 6 (some .int), Cond.fieldLink RX1 18 "TaxEngine$Brackets" "count" "I", Cond.fieldLink RX1 9 "TaxEngine$Brackets" "thresholds" "[I", Cond.methodLink RX1 38 Lib.Math.min.name, Cond.methodLink RX1 44 Lib.Math.max.name, Cond.fieldLink RX1 15 "TaxEngine$Brackets" "rates" "[I"]
def wsL_why_r6 : List Cond := [Cond.methodLink RX6 103 yX0_total, Cond.instanceMethod yX0_total, Cond.selects RX0 yX0_total yX0_total, Cond.initialized RX0, Cond.code yX0_total cX0_total 3 (some .int), Cond.fieldLink RX0 22 "TaxEngine$Amounts" "count" "I", Cond.methodLink RX0 29 yX0_leftAt, Cond.instanceMethod yX0_leftAt, Cond.selects RX0 yX0_leftAt yX0_leftAt, Cond.code yX0_leftAt cX0_leftAt 2 (some .int), Cond.fieldLink RX0 9 "TaxEngine$Amounts" "lefts" "[I", Cond.methodLink RX6 109 yX5_given, Cond.instanceMethod yX5_given, Cond.selects RX5 yX5_given yX5_given, Cond.code yX5_given cX5_given 2 (some .int), Cond.fieldLink RX5 21 "TaxEngine$Sheet" "answers" "[I", Cond.methodLink RX7 137 yX3_explain, Cond.instanceMethod yX3_explain, Cond.selects RX3 yX3_explain yX3_explain, Cond.initialized RX3, Cond.code yX3_explain cX3_explain 5 none, Cond.fieldLink RX3 15 "TaxEngine$Explanation" "size" "I", Cond.fieldLink RX3 19 "TaxEngine$Explanation" "taken" "I", Cond.fieldLink RX3 9 "TaxEngine$Explanation" "row" "[I"]
def wsL_why_r7 : List Cond := [Cond.methodLink RX3 22 yX3_add, Cond.instanceMethod yX3_add, Cond.selects RX3 yX3_add yX3_add, Cond.code yX3_add cX3_add 2 none, Cond.methodLink RX3 30 yX3_addReasons, Cond.instanceMethod yX3_addReasons, Cond.selects RX3 yX3_addReasons yX3_addReasons, Cond.code yX3_addReasons cX3_addReasons 5 none, Cond.methodLink RX3 46 yX5_first, Cond.methodLink RX3 51 yX5_kind, Cond.methodLink RX3 54 yX5_second, Cond.methodLink RX3 57 yX6_of, Cond.methodLink RX7 141 yX3_lineAt, Cond.instanceMethod yX3_lineAt, Cond.selects RX3 yX3_lineAt yX3_lineAt, Cond.code yX3_lineAt cX3_lineAt 2 (some .int)]
def wsL_why : List Cond := .codeWith yL_why cL_why 5 (some .int) [(0, 10, 13, 13)] :: ((wsL_why_r1 ++ (wsL_why_r2 ++ (wsL_why_r3 ++ (wsL_why_r4 ++ (wsL_why_r5 ++ (wsL_why_r6 ++ wsL_why_r7)))))) ++ wsX70 ++ wsX60 ++ wsX40 ++ wsX50 ++ wsX10 ++ wsX00 ++ wsX30 ++ (vx_at0 RX7 198 "java/lang/IndexOutOfBoundsException" ["java/lang/RuntimeException", "java/lang/Exception"]).filter goodWord)
def wsL_bracket_r1 : List Cond := [Cond.classLink RL 15 "java/lang/IllegalArgumentException", Cond.classLink RL 17 "java/lang/IllegalStateException", Cond.methodLink RL 43 yX7_bracket, Cond.instanceMethod yX7_bracket, Cond.selects RX7 yX7_bracket yX7_bracket, Cond.initialized RX7, Cond.code yX7_bracket cX7_bracket 3 (some .int), Cond.constant RX7 103 (1000000), Cond.fieldLink RX7 26 "TaxEngine" "brackets" "LTaxEngine$Brackets;", Cond.methodLink RX7 71 yX7_isWithin, Cond.static yX7_isWithin, Cond.code yX7_isWithin cX7_isWithin 3 (some .boolean), Cond.methodLink RX7 82 yX7_checkArgument, Cond.static yX7_checkArgument, Cond.code yX7_checkArgument cX7_checkArgument 1 none, Cond.classLink RX7 199 "java/lang/IllegalArgumentException", Cond.initialized "java/lang/IllegalArgumentException", Cond.methodLink RX7 144 yX1_hasRoomFor, Cond.instanceMethod yX1_hasRoomFor, Cond.selects RX1 yX1_hasRoomFor yX1_hasRoomFor, Cond.initialized RX1, Cond.code yX1_hasRoomFor cX1_hasRoomFor 2 (some .boolean), Cond.fieldLink RX1 18 "TaxEngine$Brackets" "count" "I", Cond.methodLink RX1 22 yX1_placeFor]
def wsL_bracket_r2 : List Cond := [Cond.instanceMethod yX1_placeFor, Cond.selects RX1 yX1_placeFor yX1_placeFor, Cond.code yX1_placeFor cX1_placeFor 3 (some .int), Cond.fieldLink RX1 9 "TaxEngine$Brackets" "thresholds" "[I", Cond.static yX7_at, Cond.code yX7_at cX7_at 2 (some .int), Cond.methodLink RX1 26 yX1_isAt, Cond.instanceMethod yX1_isAt, Cond.selects RX1 yX1_isAt yX1_isAt, Cond.code yX1_isAt cX1_isAt 3 (some .boolean), Cond.methodLink RX7 118 yX7_checkState, Cond.static yX7_checkState, Cond.code yX7_checkState cX7_checkState 1 none, Cond.classLink RX7 100 "java/lang/IllegalStateException", Cond.initialized "java/lang/IllegalStateException", Cond.methodLink RX7 147 yX1_set, Cond.instanceMethod yX1_set, Cond.selects RX1 yX1_set yX1_set, Cond.code yX1_set cX1_set 5 none, Cond.fieldLink RX1 15 "TaxEngine$Brackets" "rates" "[I", Cond.static yX7_put, Cond.code yX7_put cX7_put 3 none, Cond.methodLink RX7 149 yX1_size, Cond.instanceMethod yX1_size]
def wsL_bracket_r3 : List Cond := [Cond.selects RX1 yX1_size yX1_size, Cond.code yX1_size cX1_size 1 (some .int)]
def wsL_bracket : List Cond := .codeWith yL_bracket cL_bracket 5 (some .int) [(0, 10, 13, 15), (0, 10, 17, 17)] :: ((wsL_bracket_r1 ++ (wsL_bracket_r2 ++ wsL_bracket_r3)) ++ wsX70 ++ wsX10 ++ (vx_at0 RX7 201 "java/lang/IllegalArgumentException" ["java/lang/RuntimeException", "java/lang/Exception"]).filter goodWord ++ (vx_at0 RX7 102 "java/lang/IllegalStateException" ["java/lang/RuntimeException", "java/lang/Exception"]).filter goodWord)
def wsL_taxOn_r1 : List Cond := [Cond.classLink RL 15 "java/lang/IllegalArgumentException", Cond.methodLink RL 46 yX7_taxOn, Cond.instanceMethod yX7_taxOn, Cond.selects RX7 yX7_taxOn yX7_taxOn, Cond.initialized RX7, Cond.code yX7_taxOn cX7_taxOn 2 (some .int), Cond.constant RX7 117 (1000000000), Cond.fieldLink RX7 26 "TaxEngine" "brackets" "LTaxEngine$Brackets;", Cond.methodLink RX7 71 yX7_isWithin, Cond.static yX7_isWithin, Cond.code yX7_isWithin cX7_isWithin 3 (some .boolean), Cond.methodLink RX7 82 yX7_checkArgument, Cond.static yX7_checkArgument, Cond.code yX7_checkArgument cX7_checkArgument 1 none, Cond.classLink RX7 199 "java/lang/IllegalArgumentException", Cond.initialized "java/lang/IllegalArgumentException", Cond.methodLink RX7 156 yX1_tax, Cond.instanceMethod yX1_tax, Cond.selects RX1 yX1_tax yX1_tax, Cond.initialized RX1, Cond.code yX1_tax cX1_tax 6 (some .int), Cond.fieldLink RX1 18 "TaxEngine$Brackets" "count" "I", Cond.fieldLink RX1 9 "TaxEngine$Brackets" "thresholds" "[I", Cond.methodLink RX1 38 Lib.Math.min.name]
def wsL_taxOn_r2 : List Cond := [Cond.static Lib.Math.min.name, Cond.initialized "java/lang/Math", Cond.code Lib.Math.min.name Lib.Math.min.code 2 (some .int), Cond.methodLink RX1 44 Lib.Math.max.name, Cond.static Lib.Math.max.name, Cond.code Lib.Math.max.name Lib.Math.max.code 2 (some .int), Cond.fieldLink RX1 15 "TaxEngine$Brackets" "rates" "[I", Cond.static yX7_at, Cond.code yX7_at cX7_at 2 (some .int), Cond.static yX7_thousandths, Cond.code yX7_thousandths cX7_thousandths 2 (some .int), Cond.constantLong RX7 205 (1000)]
def wsL_taxOn : List Cond := .codeWith yL_taxOn cL_taxOn 4 (some .int) [(0, 9, 12, 15)] :: ((wsL_taxOn_r1 ++ wsL_taxOn_r2) ++ wsX70 ++ wsX10 ++ (vx_at0 RX7 201 "java/lang/IllegalArgumentException" ["java/lang/RuntimeException", "java/lang/Exception"]).filter goodWord)
def wsL_carry_r1 : List Cond := [Cond.classLink RL 15 "java/lang/IllegalArgumentException", Cond.classLink RL 17 "java/lang/IllegalStateException", Cond.methodLink RL 49 yX7_carry, Cond.instanceMethod yX7_carry, Cond.selects RX7 yX7_carry yX7_carry, Cond.initialized RX7, Cond.code yX7_carry cX7_carry 4 (some .int), Cond.fieldLink RX7 33 "TaxEngine" "amounts" "LTaxEngine$Amounts;", Cond.constant RX7 103 (1000000), Cond.methodLink RX7 159 yX0_now, Cond.instanceMethod yX0_now, Cond.selects RX0 yX0_now yX0_now, Cond.initialized RX0, Cond.code yX0_now cX0_now 1 (some .int), Cond.fieldLink RX0 18 "TaxEngine$Amounts" "now" "I", Cond.methodLink RX7 71 yX7_isWithin, Cond.static yX7_isWithin, Cond.code yX7_isWithin cX7_isWithin 3 (some .boolean), Cond.methodLink RX7 82 yX7_checkArgument, Cond.static yX7_checkArgument, Cond.code yX7_checkArgument cX7_checkArgument 1 none, Cond.classLink RX7 199 "java/lang/IllegalArgumentException", Cond.initialized "java/lang/IllegalArgumentException", Cond.methodLink RX7 162 yX0_size]
def wsL_carry_r2 : List Cond := [Cond.instanceMethod yX0_size, Cond.selects RX0 yX0_size yX0_size, Cond.code yX0_size cX0_size 1 (some .int), Cond.fieldLink RX0 22 "TaxEngine$Amounts" "count" "I", Cond.methodLink RX7 118 yX7_checkState, Cond.static yX7_checkState, Cond.code yX7_checkState cX7_checkState 1 none, Cond.classLink RX7 100 "java/lang/IllegalStateException", Cond.initialized "java/lang/IllegalStateException", Cond.methodLink RX7 163 yX0_add, Cond.instanceMethod yX0_add, Cond.selects RX0 yX0_add yX0_add, Cond.code yX0_add cX0_add 4 none, Cond.fieldLink RX0 15 "TaxEngine$Amounts" "lasts" "[I", Cond.fieldLink RX0 9 "TaxEngine$Amounts" "lefts" "[I", Cond.static yX7_at, Cond.code yX7_at cX7_at 2 (some .int), Cond.methodLink RX0 33 yX0_move, Cond.instanceMethod yX0_move, Cond.selects RX0 yX0_move yX0_move, Cond.code yX0_move cX0_move 3 none, Cond.static yX7_put, Cond.code yX7_put cX7_put 3 none, Cond.methodLink RX7 166 yX0_total]
def wsL_carry_r3 : List Cond := [Cond.instanceMethod yX0_total, Cond.selects RX0 yX0_total yX0_total, Cond.code yX0_total cX0_total 3 (some .int), Cond.methodLink RX0 29 yX0_leftAt, Cond.instanceMethod yX0_leftAt, Cond.selects RX0 yX0_leftAt yX0_leftAt, Cond.code yX0_leftAt cX0_leftAt 2 (some .int)]
def wsL_carry : List Cond := .codeWith yL_carry cL_carry 5 (some .int) [(0, 10, 13, 15), (0, 10, 17, 17)] :: ((wsL_carry_r1 ++ (wsL_carry_r2 ++ wsL_carry_r3)) ++ wsX70 ++ wsX00 ++ (vx_at0 RX7 201 "java/lang/IllegalArgumentException" ["java/lang/RuntimeException", "java/lang/Exception"]).filter goodWord ++ (vx_at0 RX7 102 "java/lang/IllegalStateException" ["java/lang/RuntimeException", "java/lang/Exception"]).filter goodWord)
def wsL_carriedAt_r1 : List Cond := [Cond.classLink RL 13 "java/lang/IndexOutOfBoundsException", Cond.methodLink RL 52 yX7_carriedAt, Cond.instanceMethod yX7_carriedAt, Cond.selects RX7 yX7_carriedAt yX7_carriedAt, Cond.initialized RX7, Cond.code yX7_carriedAt cX7_carriedAt 2 (some .int), Cond.fieldLink RX7 33 "TaxEngine" "amounts" "LTaxEngine$Amounts;", Cond.methodLink RX7 162 yX0_size, Cond.instanceMethod yX0_size, Cond.selects RX0 yX0_size yX0_size, Cond.initialized RX0, Cond.code yX0_size cX0_size 1 (some .int), Cond.fieldLink RX0 22 "TaxEngine$Amounts" "count" "I", Cond.methodLink RX7 134 yX7_checkPlace, Cond.static yX7_checkPlace, Cond.code yX7_checkPlace cX7_checkPlace 1 none, Cond.classLink RX7 196 "java/lang/IndexOutOfBoundsException", Cond.initialized "java/lang/IndexOutOfBoundsException", Cond.methodLink RX7 169 yX0_leftAt, Cond.instanceMethod yX0_leftAt, Cond.selects RX0 yX0_leftAt yX0_leftAt, Cond.code yX0_leftAt cX0_leftAt 2 (some .int), Cond.fieldLink RX0 9 "TaxEngine$Amounts" "lefts" "[I", Cond.static yX7_at]
def wsL_carriedAt_r2 : List Cond := [Cond.code yX7_at cX7_at 2 (some .int)]
def wsL_carriedAt : List Cond := .codeWith yL_carriedAt cL_carriedAt 4 (some .int) [(0, 9, 12, 13)] :: ((wsL_carriedAt_r1 ++ wsL_carriedAt_r2) ++ wsX70 ++ wsX00 ++ (vx_at0 RX7 198 "java/lang/IndexOutOfBoundsException" ["java/lang/RuntimeException", "java/lang/Exception"]).filter goodWord)
def wsL_addCredit_r1 : List Cond := [Cond.classLink RL 15 "java/lang/IllegalArgumentException", Cond.classLink RL 17 "java/lang/IllegalStateException", Cond.methodLink RL 55 yX7_addCredit, Cond.instanceMethod yX7_addCredit, Cond.selects RX7 yX7_addCredit yX7_addCredit, Cond.initialized RX7, Cond.code yX7_addCredit cX7_addCredit 3 (some .int), Cond.constant RX7 103 (1000000), Cond.fieldLink RX7 40 "TaxEngine" "credits" "LTaxEngine$Credits;", Cond.methodLink RX7 71 yX7_isWithin, Cond.static yX7_isWithin, Cond.code yX7_isWithin cX7_isWithin 3 (some .boolean), Cond.methodLink RX7 82 yX7_checkArgument, Cond.static yX7_checkArgument, Cond.code yX7_checkArgument cX7_checkArgument 1 none, Cond.classLink RX7 199 "java/lang/IllegalArgumentException", Cond.initialized "java/lang/IllegalArgumentException", Cond.methodLink RX7 178 yX2_size, Cond.instanceMethod yX2_size, Cond.selects RX2 yX2_size yX2_size, Cond.initialized RX2, Cond.code yX2_size cX2_size 1 (some .int), Cond.fieldLink RX2 24 "TaxEngine$Credits" "count" "I", Cond.methodLink RX7 118 yX7_checkState]
def wsL_addCredit_r2 : List Cond := [Cond.static yX7_checkState, Cond.code yX7_checkState cX7_checkState 1 none, Cond.classLink RX7 100 "java/lang/IllegalStateException", Cond.initialized "java/lang/IllegalStateException", Cond.methodLink RX7 179 yX2_add, Cond.instanceMethod yX2_add, Cond.selects RX2 yX2_add yX2_add, Cond.code yX2_add cX2_add 3 none, Cond.fieldLink RX2 9 "TaxEngine$Credits" "sizes" "[I", Cond.fieldLink RX2 15 "TaxEngine$Credits" "worths" "[I", Cond.static yX7_put, Cond.code yX7_put cX7_put 3 none]
def wsL_addCredit : List Cond := .codeWith yL_addCredit cL_addCredit 5 (some .int) [(0, 10, 13, 15), (0, 10, 17, 17)] :: ((wsL_addCredit_r1 ++ wsL_addCredit_r2) ++ wsX70 ++ wsX20 ++ (vx_at0 RX7 201 "java/lang/IllegalArgumentException" ["java/lang/RuntimeException", "java/lang/Exception"]).filter goodWord ++ (vx_at0 RX7 102 "java/lang/IllegalStateException" ["java/lang/RuntimeException", "java/lang/Exception"]).filter goodWord)
def wsL_dropCredit : List Cond := .codeWith yL_dropCredit cL_dropCredit 3 (some .int) [(0, 8, 11, 17)] :: ([.classLink RL 17 "java/lang/IllegalStateException", .methodLink RL 58 yX7_dropCredit, .instanceMethod yX7_dropCredit, .selects RX7 yX7_dropCredit yX7_dropCredit, .initialized RX7, .code yX7_dropCredit cX7_dropCredit 1 (some .int), .fieldLink RX7 40 "TaxEngine" "credits" "LTaxEngine$Credits;", .methodLink RX7 178 yX2_size, .instanceMethod yX2_size, .selects RX2 yX2_size yX2_size, .initialized RX2, .code yX2_size cX2_size 1 (some .int), .fieldLink RX2 24 "TaxEngine$Credits" "count" "I", .methodLink RX7 118 yX7_checkState, .static yX7_checkState, .code yX7_checkState cX7_checkState 1 none, .classLink RX7 100 "java/lang/IllegalStateException", .initialized "java/lang/IllegalStateException", .methodLink RX7 180 yX2_dropLast, .instanceMethod yX2_dropLast, .selects RX2 yX2_dropLast yX2_dropLast, .code yX2_dropLast cX2_dropLast 1 none] ++ wsX70 ++ wsX20 ++ (vx_at0 RX7 102 "java/lang/IllegalStateException" ["java/lang/RuntimeException", "java/lang/Exception"]).filter goodWord)
def wsL_creditAt_r1 : List Cond := [Cond.classLink RL 13 "java/lang/IndexOutOfBoundsException", Cond.methodLink RL 62 yX7_creditAt, Cond.instanceMethod yX7_creditAt, Cond.selects RX7 yX7_creditAt yX7_creditAt, Cond.initialized RX7, Cond.code yX7_creditAt cX7_creditAt 3 (some .int), Cond.fieldLink RX7 40 "TaxEngine" "credits" "LTaxEngine$Credits;", Cond.fieldLink RX7 49 "TaxEngine" "values" "LTaxEngine$Values;", Cond.methodLink RX7 67 yX7_checkLine, Cond.static yX7_checkLine, Cond.code yX7_checkLine cX7_checkLine 1 none, Cond.methodLink RX7 71 yX7_isWithin, Cond.static yX7_isWithin, Cond.code yX7_isWithin cX7_isWithin 3 (some .boolean), Cond.methodLink RX7 134 yX7_checkPlace, Cond.static yX7_checkPlace, Cond.code yX7_checkPlace cX7_checkPlace 1 none, Cond.classLink RX7 196 "java/lang/IndexOutOfBoundsException", Cond.initialized "java/lang/IndexOutOfBoundsException", Cond.methodLink RX7 178 yX2_size, Cond.instanceMethod yX2_size, Cond.selects RX2 yX2_size yX2_size, Cond.initialized RX2, Cond.code yX2_size cX2_size 1 (some .int)]
def wsL_creditAt_r2 : List Cond := [Cond.fieldLink RX2 24 "TaxEngine$Credits" "count" "I", Cond.methodLink RX7 111 yX6_workOut, Cond.instanceMethod yX6_workOut, Cond.selects RX6 yX6_workOut yX6_workOut, Cond.initialized RX6, Cond.code yX6_workOut cX6_workOut 5 none, Cond.fieldLink RX6 15 "TaxEngine$Values" "raised" "I", Cond.fieldLink RX6 23 "TaxEngine$Values" "plan" "LTaxEngine$Plan;", Cond.fieldLink RX6 19 "TaxEngine$Values" "sheet" "LTaxEngine$Sheet;", Cond.fieldLink RX6 9 "TaxEngine$Values" "numbers" "[I", Cond.methodLink RX6 39 yX4_lineAt, Cond.instanceMethod yX4_lineAt, Cond.selects RX4 yX4_lineAt yX4_lineAt, Cond.initialized RX4, Cond.code yX4_lineAt cX4_lineAt 2 (some .int), Cond.fieldLink RX4 18 "TaxEngine$Plan" "order" "[I", Cond.static yX7_at, Cond.code yX7_at cX7_at 2 (some .int), Cond.methodLink RX6 45 yX5_kind, Cond.instanceMethod yX5_kind, Cond.selects RX5 yX5_kind yX5_kind, Cond.initialized RX5, Cond.code yX5_kind cX5_kind 2 (some .int), Cond.fieldLink RX5 9 "TaxEngine$Sheet" "kinds" "[I"]
def wsL_creditAt_r3 : List Cond := [Cond.methodLink RX6 50 yX4_isCircular, Cond.instanceMethod yX4_isCircular, Cond.selects RX4 yX4_isCircular yX4_isCircular, Cond.code yX4_isCircular cX4_isCircular 2 (some .boolean), Cond.methodLink RX4 59 yX4_reach, Cond.instanceMethod yX4_reach, Cond.selects RX4 yX4_reach yX4_reach, Cond.code yX4_reach cX4_reach 2 (some .int), Cond.fieldLink RX4 9 "TaxEngine$Plan" "reach" "[I", Cond.static yX7_has, Cond.code yX7_has cX7_has 2 (some .boolean), Cond.methodLink RX7 202 yX7_bit, Cond.static yX7_bit, Cond.code yX7_bit cX7_bit 1 (some .int), Cond.methodLink RX6 54 yX6_greatest, Cond.instanceMethod yX6_greatest, Cond.selects RX6 yX6_greatest yX6_greatest, Cond.code yX6_greatest cX6_greatest 7 (some .int), Cond.methodLink RX6 72 yX5_first, Cond.instanceMethod yX5_first, Cond.selects RX5 yX5_first yX5_first, Cond.code yX5_first cX5_first 2 (some .int), Cond.fieldLink RX5 15 "TaxEngine$Sheet" "firsts" "[I", Cond.methodLink RX6 75 yX6_of]
def wsL_creditAt_r4 : List Cond := [Cond.instanceMethod yX6_of, Cond.selects RX6 yX6_of yX6_of, Cond.code yX6_of cX6_of 2 (some .int), Cond.methodLink RX6 78 yX6_suppose, Cond.instanceMethod yX6_suppose, Cond.selects RX6 yX6_suppose yX6_suppose, Cond.code yX6_suppose cX6_suppose 7 none, Cond.static yX7_put, Cond.code yX7_put cX7_put 3 none, Cond.methodLink RX6 64 yX4_groupOf, Cond.instanceMethod yX4_groupOf, Cond.selects RX4 yX4_groupOf yX4_groupOf, Cond.code yX4_groupOf cX4_groupOf 2 (some .int), Cond.fieldLink RX4 15 "TaxEngine$Plan" "groups" "[I", Cond.methodLink RX6 67 yJ6_bitCount_0f7a4, Cond.static yJ6_bitCount_0f7a4, Cond.initialized RJ6, Cond.code yJ6_bitCount_0f7a4 cJ6_bitCount_0f7a4 1 (some .int), Cond.constant RJ6 265 (1431655765), Cond.constant RJ6 266 (858993459), Cond.constant RJ6 267 (252645135), Cond.methodLink RX6 57 yX6_plain, Cond.instanceMethod yX6_plain, Cond.selects RX6 yX6_plain yX6_plain]
def wsL_creditAt_r5 : List Cond := [Cond.code yX6_plain cX6_plain 4 (some .int), Cond.constant RX6 85 (1000000000), Cond.methodLink RX6 86 Lib.Math.min.name, Cond.static Lib.Math.min.name, Cond.initialized "java/lang/Math", Cond.code Lib.Math.min.name Lib.Math.min.code 2 (some .int), Cond.methodLink RX6 92 Lib.Math.max.name, Cond.static Lib.Math.max.name, Cond.code Lib.Math.max.name Lib.Math.max.code 2 (some .int), Cond.fieldLink RX6 27 "TaxEngine$Values" "brackets" "LTaxEngine$Brackets;", Cond.fieldLink RX6 31 "TaxEngine$Values" "amounts" "LTaxEngine$Amounts;", Cond.methodLink RX6 82 yX5_second, Cond.instanceMethod yX5_second, Cond.selects RX5 yX5_second yX5_second, Cond.code yX5_second cX5_second 2 (some .int), Cond.fieldLink RX5 18 "TaxEngine$Sheet" "seconds" "[I", Cond.static yX7_thousandths, Cond.code yX7_thousandths cX7_thousandths 2 (some .int), Cond.constantLong RX7 205 (1000), Cond.methodLink RX6 98 yX1_tax, Cond.instanceMethod yX1_tax, Cond.selects RX1 yX1_tax yX1_tax, Cond.initialized RX1, Cond.code yX1_tax cX1_tax 6 (some .int)]
def wsL_creditAt_r6 : List Cond := [Cond.fieldLink RX1 18 "TaxEngine$Brackets" "count" "I", Cond.fieldLink RX1 9 "TaxEngine$Brackets" "thresholds" "[I", Cond.methodLink RX1 38 Lib.Math.min.name, Cond.methodLink RX1 44 Lib.Math.max.name, Cond.fieldLink RX1 15 "TaxEngine$Brackets" "rates" "[I", Cond.methodLink RX6 103 yX0_total, Cond.instanceMethod yX0_total, Cond.selects RX0 yX0_total yX0_total, Cond.initialized RX0, Cond.code yX0_total cX0_total 3 (some .int), Cond.fieldLink RX0 22 "TaxEngine$Amounts" "count" "I", Cond.methodLink RX0 29 yX0_leftAt, Cond.instanceMethod yX0_leftAt, Cond.selects RX0 yX0_leftAt yX0_leftAt, Cond.code yX0_leftAt cX0_leftAt 2 (some .int), Cond.fieldLink RX0 9 "TaxEngine$Amounts" "lefts" "[I", Cond.methodLink RX6 109 yX5_given, Cond.instanceMethod yX5_given, Cond.selects RX5 yX5_given yX5_given, Cond.code yX5_given cX5_given 2 (some .int), Cond.fieldLink RX5 21 "TaxEngine$Sheet" "answers" "[I", Cond.methodLink RX7 114 yX6_of, Cond.methodLink RX7 183 yX2_findBest, Cond.instanceMethod yX2_findBest]
def wsL_creditAt_r7 : List Cond := [Cond.selects RX2 yX2_findBest yX2_findBest, Cond.code yX2_findBest cX2_findBest 6 (some .int), Cond.fieldLink RX2 18 "TaxEngine$Credits" "order" "[I", Cond.methodLink RX2 36 yX2_sumInOrder, Cond.instanceMethod yX2_sumInOrder, Cond.selects RX2 yX2_sumInOrder yX2_sumInOrder, Cond.code yX2_sumInOrder cX2_sumInOrder 7 (some .int), Cond.fieldLink RX2 9 "TaxEngine$Credits" "sizes" "[I", Cond.methodLink RX2 47 Lib.Math.min.name, Cond.fieldLink RX2 15 "TaxEngine$Credits" "worths" "[I", Cond.methodLink RX2 40 yX2_keepOrder, Cond.instanceMethod yX2_keepOrder, Cond.selects RX2 yX2_keepOrder yX2_keepOrder, Cond.code yX2_keepOrder cX2_keepOrder 2 none, Cond.fieldLink RX2 21 "TaxEngine$Credits" "best" "[I", Cond.methodLink RX2 43 yX2_toNextOrder, Cond.instanceMethod yX2_toNextOrder, Cond.selects RX2 yX2_toNextOrder yX2_toNextOrder, Cond.code yX2_toNextOrder cX2_toNextOrder 5 (some .boolean), Cond.methodLink RX2 56 yX2_swap, Cond.instanceMethod yX2_swap, Cond.selects RX2 yX2_swap yX2_swap, Cond.code yX2_swap cX2_swap 4 none, Cond.methodLink RX7 186 yX2_bestAt]
def wsL_creditAt_r8 : List Cond := [Cond.instanceMethod yX2_bestAt, Cond.selects RX2 yX2_bestAt yX2_bestAt, Cond.code yX2_bestAt cX2_bestAt 2 (some .int)]
def wsL_creditAt : List Cond := .codeWith yL_creditAt cL_creditAt 5 (some .int) [(0, 10, 13, 13)] :: ((wsL_creditAt_r1 ++ (wsL_creditAt_r2 ++ (wsL_creditAt_r3 ++ (wsL_creditAt_r4 ++ (wsL_creditAt_r5 ++ (wsL_creditAt_r6 ++ (wsL_creditAt_r7 ++ wsL_creditAt_r8))))))) ++ wsX70 ++ wsX20 ++ wsX60 ++ wsX40 ++ wsX50 ++ wsX10 ++ wsX00 ++ (vx_at0 RX7 198 "java/lang/IndexOutOfBoundsException" ["java/lang/RuntimeException", "java/lang/Exception"]).filter goodWord)
def wsL_afterCredits_r1 : List Cond := [Cond.classLink RL 13 "java/lang/IndexOutOfBoundsException", Cond.methodLink RL 65 yX7_afterCredits, Cond.instanceMethod yX7_afterCredits, Cond.selects RX7 yX7_afterCredits yX7_afterCredits, Cond.initialized RX7, Cond.code yX7_afterCredits cX7_afterCredits 3 (some .int), Cond.fieldLink RX7 49 "TaxEngine" "values" "LTaxEngine$Values;", Cond.fieldLink RX7 40 "TaxEngine" "credits" "LTaxEngine$Credits;", Cond.methodLink RX7 190 Lib.Math.min.name, Cond.static Lib.Math.min.name, Cond.initialized "java/lang/Math", Cond.code Lib.Math.min.name Lib.Math.min.code 2 (some .int), Cond.methodLink RX7 67 yX7_checkLine, Cond.static yX7_checkLine, Cond.code yX7_checkLine cX7_checkLine 1 none, Cond.methodLink RX7 71 yX7_isWithin, Cond.static yX7_isWithin, Cond.code yX7_isWithin cX7_isWithin 3 (some .boolean), Cond.methodLink RX7 134 yX7_checkPlace, Cond.static yX7_checkPlace, Cond.code yX7_checkPlace cX7_checkPlace 1 none, Cond.classLink RX7 196 "java/lang/IndexOutOfBoundsException", Cond.initialized "java/lang/IndexOutOfBoundsException", Cond.methodLink RX7 111 yX6_workOut]
def wsL_afterCredits_r2 : List Cond := [Cond.instanceMethod yX6_workOut, Cond.selects RX6 yX6_workOut yX6_workOut, Cond.initialized RX6, Cond.code yX6_workOut cX6_workOut 5 none, Cond.fieldLink RX6 15 "TaxEngine$Values" "raised" "I", Cond.fieldLink RX6 23 "TaxEngine$Values" "plan" "LTaxEngine$Plan;", Cond.fieldLink RX6 19 "TaxEngine$Values" "sheet" "LTaxEngine$Sheet;", Cond.fieldLink RX6 9 "TaxEngine$Values" "numbers" "[I", Cond.methodLink RX6 39 yX4_lineAt, Cond.instanceMethod yX4_lineAt, Cond.selects RX4 yX4_lineAt yX4_lineAt, Cond.initialized RX4, Cond.code yX4_lineAt cX4_lineAt 2 (some .int), Cond.fieldLink RX4 18 "TaxEngine$Plan" "order" "[I", Cond.static yX7_at, Cond.code yX7_at cX7_at 2 (some .int), Cond.methodLink RX6 45 yX5_kind, Cond.instanceMethod yX5_kind, Cond.selects RX5 yX5_kind yX5_kind, Cond.initialized RX5, Cond.code yX5_kind cX5_kind 2 (some .int), Cond.fieldLink RX5 9 "TaxEngine$Sheet" "kinds" "[I", Cond.methodLink RX6 50 yX4_isCircular, Cond.instanceMethod yX4_isCircular]
def wsL_afterCredits_r3 : List Cond := [Cond.selects RX4 yX4_isCircular yX4_isCircular, Cond.code yX4_isCircular cX4_isCircular 2 (some .boolean), Cond.methodLink RX4 59 yX4_reach, Cond.instanceMethod yX4_reach, Cond.selects RX4 yX4_reach yX4_reach, Cond.code yX4_reach cX4_reach 2 (some .int), Cond.fieldLink RX4 9 "TaxEngine$Plan" "reach" "[I", Cond.static yX7_has, Cond.code yX7_has cX7_has 2 (some .boolean), Cond.methodLink RX7 202 yX7_bit, Cond.static yX7_bit, Cond.code yX7_bit cX7_bit 1 (some .int), Cond.methodLink RX6 54 yX6_greatest, Cond.instanceMethod yX6_greatest, Cond.selects RX6 yX6_greatest yX6_greatest, Cond.code yX6_greatest cX6_greatest 7 (some .int), Cond.methodLink RX6 72 yX5_first, Cond.instanceMethod yX5_first, Cond.selects RX5 yX5_first yX5_first, Cond.code yX5_first cX5_first 2 (some .int), Cond.fieldLink RX5 15 "TaxEngine$Sheet" "firsts" "[I", Cond.methodLink RX6 75 yX6_of, Cond.instanceMethod yX6_of, Cond.selects RX6 yX6_of yX6_of]
def wsL_afterCredits_r4 : List Cond := [Cond.code yX6_of cX6_of 2 (some .int), Cond.methodLink RX6 78 yX6_suppose, Cond.instanceMethod yX6_suppose, Cond.selects RX6 yX6_suppose yX6_suppose, Cond.code yX6_suppose cX6_suppose 7 none, Cond.static yX7_put, Cond.code yX7_put cX7_put 3 none, Cond.methodLink RX6 64 yX4_groupOf, Cond.instanceMethod yX4_groupOf, Cond.selects RX4 yX4_groupOf yX4_groupOf, Cond.code yX4_groupOf cX4_groupOf 2 (some .int), Cond.fieldLink RX4 15 "TaxEngine$Plan" "groups" "[I", Cond.methodLink RX6 67 yJ6_bitCount_0f7a4, Cond.static yJ6_bitCount_0f7a4, Cond.initialized RJ6, Cond.code yJ6_bitCount_0f7a4 cJ6_bitCount_0f7a4 1 (some .int), Cond.constant RJ6 265 (1431655765), Cond.constant RJ6 266 (858993459), Cond.constant RJ6 267 (252645135), Cond.methodLink RX6 57 yX6_plain, Cond.instanceMethod yX6_plain, Cond.selects RX6 yX6_plain yX6_plain, Cond.code yX6_plain cX6_plain 4 (some .int), Cond.constant RX6 85 (1000000000)]
def wsL_afterCredits_r5 : List Cond := [Cond.methodLink RX6 86 Lib.Math.min.name, Cond.methodLink RX6 92 Lib.Math.max.name, Cond.static Lib.Math.max.name, Cond.code Lib.Math.max.name Lib.Math.max.code 2 (some .int), Cond.fieldLink RX6 27 "TaxEngine$Values" "brackets" "LTaxEngine$Brackets;", Cond.fieldLink RX6 31 "TaxEngine$Values" "amounts" "LTaxEngine$Amounts;", Cond.methodLink RX6 82 yX5_second, Cond.instanceMethod yX5_second, Cond.selects RX5 yX5_second yX5_second, Cond.code yX5_second cX5_second 2 (some .int), Cond.fieldLink RX5 18 "TaxEngine$Sheet" "seconds" "[I", Cond.static yX7_thousandths, Cond.code yX7_thousandths cX7_thousandths 2 (some .int), Cond.constantLong RX7 205 (1000), Cond.methodLink RX6 98 yX1_tax, Cond.instanceMethod yX1_tax, Cond.selects RX1 yX1_tax yX1_tax, Cond.initialized RX1, Cond.code yX1_tax cX1_tax 6 (some .int), Cond.fieldLink RX1 18 "TaxEngine$Brackets" "count" "I", Cond.fieldLink RX1 9 "TaxEngine$Brackets" "thresholds" "[I", Cond.methodLink RX1 38 Lib.Math.min.name, Cond.methodLink RX1 44 Lib.Math.max.name, Cond.fieldLink RX1 15 "TaxEngine$Brackets" "rates" "[I"]
def wsL_afterCredits_r6 : List Cond := [Cond.methodLink RX6 103 yX0_total, Cond.instanceMethod yX0_total, Cond.selects RX0 yX0_total yX0_total, Cond.initialized RX0, Cond.code yX0_total cX0_total 3 (some .int), Cond.fieldLink RX0 22 "TaxEngine$Amounts" "count" "I", Cond.methodLink RX0 29 yX0_leftAt, Cond.instanceMethod yX0_leftAt, Cond.selects RX0 yX0_leftAt yX0_leftAt, Cond.code yX0_leftAt cX0_leftAt 2 (some .int), Cond.fieldLink RX0 9 "TaxEngine$Amounts" "lefts" "[I", Cond.methodLink RX6 109 yX5_given, Cond.instanceMethod yX5_given, Cond.selects RX5 yX5_given yX5_given, Cond.code yX5_given cX5_given 2 (some .int), Cond.fieldLink RX5 21 "TaxEngine$Sheet" "answers" "[I", Cond.methodLink RX7 114 yX6_of, Cond.methodLink RX7 189 yX2_total, Cond.instanceMethod yX2_total, Cond.selects RX2 yX2_total yX2_total, Cond.initialized RX2, Cond.code yX2_total cX2_total 3 (some .int), Cond.fieldLink RX2 24 "TaxEngine$Credits" "count" "I", Cond.fieldLink RX2 9 "TaxEngine$Credits" "sizes" "[I"]
def wsL_afterCredits : List Cond := .codeWith yL_afterCredits cL_afterCredits 4 (some .int) [(0, 9, 12, 13)] :: ((wsL_afterCredits_r1 ++ (wsL_afterCredits_r2 ++ (wsL_afterCredits_r3 ++ (wsL_afterCredits_r4 ++ (wsL_afterCredits_r5 ++ wsL_afterCredits_r6))))) ++ wsX70 ++ wsX60 ++ wsX40 ++ wsX50 ++ wsX10 ++ wsX00 ++ wsX20 ++ (vx_at0 RX7 198 "java/lang/IndexOutOfBoundsException" ["java/lang/RuntimeException", "java/lang/Exception"]).filter goodWord)
def wsL_bestSum_r1 : List Cond := [Cond.classLink RL 13 "java/lang/IndexOutOfBoundsException", Cond.methodLink RL 68 yX7_bestSum, Cond.instanceMethod yX7_bestSum, Cond.selects RX7 yX7_bestSum yX7_bestSum, Cond.initialized RX7, Cond.code yX7_bestSum cX7_bestSum 2 (some .int), Cond.fieldLink RX7 49 "TaxEngine" "values" "LTaxEngine$Values;", Cond.fieldLink RX7 40 "TaxEngine" "credits" "LTaxEngine$Credits;", Cond.methodLink RX7 67 yX7_checkLine, Cond.static yX7_checkLine, Cond.code yX7_checkLine cX7_checkLine 1 none, Cond.methodLink RX7 71 yX7_isWithin, Cond.static yX7_isWithin, Cond.code yX7_isWithin cX7_isWithin 3 (some .boolean), Cond.methodLink RX7 134 yX7_checkPlace, Cond.static yX7_checkPlace, Cond.code yX7_checkPlace cX7_checkPlace 1 none, Cond.classLink RX7 196 "java/lang/IndexOutOfBoundsException", Cond.initialized "java/lang/IndexOutOfBoundsException", Cond.methodLink RX7 111 yX6_workOut, Cond.instanceMethod yX6_workOut, Cond.selects RX6 yX6_workOut yX6_workOut, Cond.initialized RX6, Cond.code yX6_workOut cX6_workOut 5 none]
def wsL_bestSum_r2 : List Cond := [Cond.fieldLink RX6 15 "TaxEngine$Values" "raised" "I", Cond.fieldLink RX6 23 "TaxEngine$Values" "plan" "LTaxEngine$Plan;", Cond.fieldLink RX6 19 "TaxEngine$Values" "sheet" "LTaxEngine$Sheet;", Cond.fieldLink RX6 9 "TaxEngine$Values" "numbers" "[I", Cond.methodLink RX6 39 yX4_lineAt, Cond.instanceMethod yX4_lineAt, Cond.selects RX4 yX4_lineAt yX4_lineAt, Cond.initialized RX4, Cond.code yX4_lineAt cX4_lineAt 2 (some .int), Cond.fieldLink RX4 18 "TaxEngine$Plan" "order" "[I", Cond.static yX7_at, Cond.code yX7_at cX7_at 2 (some .int), Cond.methodLink RX6 45 yX5_kind, Cond.instanceMethod yX5_kind, Cond.selects RX5 yX5_kind yX5_kind, Cond.initialized RX5, Cond.code yX5_kind cX5_kind 2 (some .int), Cond.fieldLink RX5 9 "TaxEngine$Sheet" "kinds" "[I", Cond.methodLink RX6 50 yX4_isCircular, Cond.instanceMethod yX4_isCircular, Cond.selects RX4 yX4_isCircular yX4_isCircular, Cond.code yX4_isCircular cX4_isCircular 2 (some .boolean), Cond.methodLink RX4 59 yX4_reach, Cond.instanceMethod yX4_reach]
def wsL_bestSum_r3 : List Cond := [Cond.selects RX4 yX4_reach yX4_reach, Cond.code yX4_reach cX4_reach 2 (some .int), Cond.fieldLink RX4 9 "TaxEngine$Plan" "reach" "[I", Cond.static yX7_has, Cond.code yX7_has cX7_has 2 (some .boolean), Cond.methodLink RX7 202 yX7_bit, Cond.static yX7_bit, Cond.code yX7_bit cX7_bit 1 (some .int), Cond.methodLink RX6 54 yX6_greatest, Cond.instanceMethod yX6_greatest, Cond.selects RX6 yX6_greatest yX6_greatest, Cond.code yX6_greatest cX6_greatest 7 (some .int), Cond.methodLink RX6 72 yX5_first, Cond.instanceMethod yX5_first, Cond.selects RX5 yX5_first yX5_first, Cond.code yX5_first cX5_first 2 (some .int), Cond.fieldLink RX5 15 "TaxEngine$Sheet" "firsts" "[I", Cond.methodLink RX6 75 yX6_of, Cond.instanceMethod yX6_of, Cond.selects RX6 yX6_of yX6_of, Cond.code yX6_of cX6_of 2 (some .int), Cond.methodLink RX6 78 yX6_suppose, Cond.instanceMethod yX6_suppose, Cond.selects RX6 yX6_suppose yX6_suppose]
def wsL_bestSum_r4 : List Cond := [Cond.code yX6_suppose cX6_suppose 7 none, Cond.static yX7_put, Cond.code yX7_put cX7_put 3 none, Cond.methodLink RX6 64 yX4_groupOf, Cond.instanceMethod yX4_groupOf, Cond.selects RX4 yX4_groupOf yX4_groupOf, Cond.code yX4_groupOf cX4_groupOf 2 (some .int), Cond.fieldLink RX4 15 "TaxEngine$Plan" "groups" "[I", Cond.methodLink RX6 67 yJ6_bitCount_0f7a4, Cond.static yJ6_bitCount_0f7a4, Cond.initialized RJ6, Cond.code yJ6_bitCount_0f7a4 cJ6_bitCount_0f7a4 1 (some .int), Cond.constant RJ6 265 (1431655765), Cond.constant RJ6 266 (858993459), Cond.constant RJ6 267 (252645135), Cond.methodLink RX6 57 yX6_plain, Cond.instanceMethod yX6_plain, Cond.selects RX6 yX6_plain yX6_plain, Cond.code yX6_plain cX6_plain 4 (some .int), Cond.constant RX6 85 (1000000000), Cond.methodLink RX6 86 Lib.Math.min.name, Cond.static Lib.Math.min.name, Cond.initialized "java/lang/Math", Cond.code Lib.Math.min.name Lib.Math.min.code 2 (some .int)]
def wsL_bestSum_r5 : List Cond := [Cond.methodLink RX6 92 Lib.Math.max.name, Cond.static Lib.Math.max.name, Cond.code Lib.Math.max.name Lib.Math.max.code 2 (some .int), Cond.fieldLink RX6 27 "TaxEngine$Values" "brackets" "LTaxEngine$Brackets;", Cond.fieldLink RX6 31 "TaxEngine$Values" "amounts" "LTaxEngine$Amounts;", Cond.methodLink RX6 82 yX5_second, Cond.instanceMethod yX5_second, Cond.selects RX5 yX5_second yX5_second, Cond.code yX5_second cX5_second 2 (some .int), Cond.fieldLink RX5 18 "TaxEngine$Sheet" "seconds" "[I", Cond.static yX7_thousandths, Cond.code yX7_thousandths cX7_thousandths 2 (some .int), Cond.constantLong RX7 205 (1000), Cond.methodLink RX6 98 yX1_tax, Cond.instanceMethod yX1_tax, Cond.selects RX1 yX1_tax yX1_tax, Cond.initialized RX1, Cond.code yX1_tax cX1_tax 6 (some .int), Cond.fieldLink RX1 18 "TaxEngine$Brackets" "count" "I", Cond.fieldLink RX1 9 "TaxEngine$Brackets" "thresholds" "[I", Cond.methodLink RX1 38 Lib.Math.min.name, Cond.methodLink RX1 44 Lib.Math.max.name, Cond.fieldLink RX1 15 "TaxEngine$Brackets" "rates" "[I", Cond.methodLink RX6 103 yX0_total]
def wsL_bestSum_r6 : List Cond := [Cond.instanceMethod yX0_total, Cond.selects RX0 yX0_total yX0_total, Cond.initialized RX0, Cond.code yX0_total cX0_total 3 (some .int), Cond.fieldLink RX0 22 "TaxEngine$Amounts" "count" "I", Cond.methodLink RX0 29 yX0_leftAt, Cond.instanceMethod yX0_leftAt, Cond.selects RX0 yX0_leftAt yX0_leftAt, Cond.code yX0_leftAt cX0_leftAt 2 (some .int), Cond.fieldLink RX0 9 "TaxEngine$Amounts" "lefts" "[I", Cond.methodLink RX6 109 yX5_given, Cond.instanceMethod yX5_given, Cond.selects RX5 yX5_given yX5_given, Cond.code yX5_given cX5_given 2 (some .int), Cond.fieldLink RX5 21 "TaxEngine$Sheet" "answers" "[I", Cond.methodLink RX7 114 yX6_of, Cond.methodLink RX7 183 yX2_findBest, Cond.instanceMethod yX2_findBest, Cond.selects RX2 yX2_findBest yX2_findBest, Cond.initialized RX2, Cond.code yX2_findBest cX2_findBest 6 (some .int), Cond.fieldLink RX2 18 "TaxEngine$Credits" "order" "[I", Cond.methodLink RX2 36 yX2_sumInOrder, Cond.instanceMethod yX2_sumInOrder]
def wsL_bestSum_r7 : List Cond := [Cond.selects RX2 yX2_sumInOrder yX2_sumInOrder, Cond.code yX2_sumInOrder cX2_sumInOrder 7 (some .int), Cond.fieldLink RX2 24 "TaxEngine$Credits" "count" "I", Cond.fieldLink RX2 9 "TaxEngine$Credits" "sizes" "[I", Cond.methodLink RX2 47 Lib.Math.min.name, Cond.fieldLink RX2 15 "TaxEngine$Credits" "worths" "[I", Cond.methodLink RX2 40 yX2_keepOrder, Cond.instanceMethod yX2_keepOrder, Cond.selects RX2 yX2_keepOrder yX2_keepOrder, Cond.code yX2_keepOrder cX2_keepOrder 2 none, Cond.fieldLink RX2 21 "TaxEngine$Credits" "best" "[I", Cond.methodLink RX2 43 yX2_toNextOrder, Cond.instanceMethod yX2_toNextOrder, Cond.selects RX2 yX2_toNextOrder yX2_toNextOrder, Cond.code yX2_toNextOrder cX2_toNextOrder 5 (some .boolean), Cond.methodLink RX2 56 yX2_swap, Cond.instanceMethod yX2_swap, Cond.selects RX2 yX2_swap yX2_swap, Cond.code yX2_swap cX2_swap 4 none]
def wsL_bestSum : List Cond := .codeWith yL_bestSum cL_bestSum 4 (some .int) [(0, 9, 12, 13)] :: ((wsL_bestSum_r1 ++ (wsL_bestSum_r2 ++ (wsL_bestSum_r3 ++ (wsL_bestSum_r4 ++ (wsL_bestSum_r5 ++ (wsL_bestSum_r6 ++ wsL_bestSum_r7)))))) ++ wsX70 ++ wsX60 ++ wsX40 ++ wsX50 ++ wsX10 ++ wsX00 ++ wsX20 ++ (vx_at0 RX7 198 "java/lang/IndexOutOfBoundsException" ["java/lang/RuntimeException", "java/lang/Exception"]).filter goodWord)
def wsL_law0_r1 : List Cond := [Cond.classLink RL 8 RX7, Cond.instantiable RX7 8, Cond.initialized RX7, Cond.classLink RL 72 RX8, Cond.instantiable RX8 24, Cond.initialized RX8, Cond.arrayClass .long, Cond.methodLink RL 71 yX7_init, Cond.instanceMethod yX7_init, Cond.code yX7_init cX7_init 1 none, Cond.methodLink RX7 1 objectInit, Cond.instanceMethod objectInit, Cond.code objectInit ⟨#[0xb1]⟩ 1 none, Cond.classLink RX7 7 RX5, Cond.instantiable RX5 4, Cond.initialized RX5, Cond.fieldLink RX7 10 "TaxEngine" "sheet" "LTaxEngine$Sheet;", Cond.classLink RX7 16 RX4, Cond.instantiable RX4 7, Cond.initialized RX4, Cond.fieldLink RX7 19 "TaxEngine" "plan" "LTaxEngine$Plan;", Cond.classLink RX7 23 RX1, Cond.instantiable RX1 3, Cond.initialized RX1]
def wsL_law0_r2 : List Cond := [Cond.fieldLink RX7 26 "TaxEngine" "brackets" "LTaxEngine$Brackets;", Cond.classLink RX7 30 RX0, Cond.instantiable RX0 4, Cond.initialized RX0, Cond.fieldLink RX7 33 "TaxEngine" "amounts" "LTaxEngine$Amounts;", Cond.classLink RX7 37 RX2, Cond.instantiable RX2 5, Cond.initialized RX2, Cond.fieldLink RX7 40 "TaxEngine" "credits" "LTaxEngine$Credits;", Cond.classLink RX7 44 RX6, Cond.instantiable RX6 6, Cond.initialized RX6, Cond.fieldLink RX7 49 "TaxEngine" "values" "LTaxEngine$Values;", Cond.fieldLink RX7 53 "TaxEngine" "raisedValues" "LTaxEngine$Values;", Cond.classLink RX7 56 RX3, Cond.instantiable RX3 3, Cond.initialized RX3, Cond.fieldLink RX7 59 "TaxEngine" "explanation" "LTaxEngine$Explanation;", Cond.instanceMethod yX5_init, Cond.code yX5_init cX5_init 1 none, Cond.methodLink RX5 3 objectInit, Cond.arrayClass .int, Cond.fieldLink RX5 9 "TaxEngine$Sheet" "kinds" "[I", Cond.fieldLink RX5 15 "TaxEngine$Sheet" "firsts" "[I"]
def wsL_law0_r3 : List Cond := [Cond.fieldLink RX5 18 "TaxEngine$Sheet" "seconds" "[I", Cond.fieldLink RX5 21 "TaxEngine$Sheet" "answers" "[I", Cond.instanceMethod yX4_init, Cond.code yX4_init cX4_init 1 none, Cond.methodLink RX4 3 objectInit, Cond.fieldLink RX4 9 "TaxEngine$Plan" "reach" "[I", Cond.fieldLink RX4 15 "TaxEngine$Plan" "groups" "[I", Cond.fieldLink RX4 18 "TaxEngine$Plan" "order" "[I", Cond.instanceMethod yX1_init, Cond.code yX1_init cX1_init 1 none, Cond.methodLink RX1 3 objectInit, Cond.fieldLink RX1 9 "TaxEngine$Brackets" "thresholds" "[I", Cond.fieldLink RX1 15 "TaxEngine$Brackets" "rates" "[I", Cond.instanceMethod yX0_init, Cond.code yX0_init cX0_init 1 none, Cond.methodLink RX0 3 objectInit, Cond.fieldLink RX0 9 "TaxEngine$Amounts" "lefts" "[I", Cond.fieldLink RX0 15 "TaxEngine$Amounts" "lasts" "[I", Cond.instanceMethod yX2_init, Cond.code yX2_init cX2_init 1 none, Cond.methodLink RX2 3 objectInit, Cond.fieldLink RX2 9 "TaxEngine$Credits" "sizes" "[I", Cond.fieldLink RX2 15 "TaxEngine$Credits" "worths" "[I", Cond.fieldLink RX2 18 "TaxEngine$Credits" "order" "[I"]
def wsL_law0_r4 : List Cond := [Cond.fieldLink RX2 21 "TaxEngine$Credits" "best" "[I", Cond.methodLink RX7 46 yX6_init, Cond.instanceMethod yX6_init, Cond.code yX6_init cX6_init 5 none, Cond.methodLink RX6 3 objectInit, Cond.fieldLink RX6 9 "TaxEngine$Values" "numbers" "[I", Cond.fieldLink RX6 15 "TaxEngine$Values" "raised" "I", Cond.fieldLink RX6 19 "TaxEngine$Values" "sheet" "LTaxEngine$Sheet;", Cond.fieldLink RX6 23 "TaxEngine$Values" "plan" "LTaxEngine$Plan;", Cond.fieldLink RX6 27 "TaxEngine$Values" "brackets" "LTaxEngine$Brackets;", Cond.fieldLink RX6 31 "TaxEngine$Values" "amounts" "LTaxEngine$Amounts;", Cond.instanceMethod yX3_init, Cond.code yX3_init cX3_init 1 none, Cond.methodLink RX3 3 objectInit, Cond.fieldLink RX3 9 "TaxEngine$Explanation" "row" "[I", Cond.methodLink RX7 63 yX4_make, Cond.instanceMethod yX4_make, Cond.selects RX4 yX4_make yX4_make, Cond.code yX4_make cX4_make 4 (some .boolean), Cond.fieldLink RX4 28 "TaxEngine$Plan" "size" "I", Cond.fieldLink RX4 32 "TaxEngine$Plan" "placed" "I", Cond.constant RX4 35 (65535), Cond.methodLink RX4 21 yX4_findReach, Cond.instanceMethod yX4_findReach]
def wsL_law0_r5 : List Cond := [Cond.selects RX4 yX4_findReach yX4_findReach, Cond.code yX4_findReach cX4_findReach 4 none, Cond.methodLink RX4 68 yX5_uses, Cond.instanceMethod yX5_uses, Cond.selects RX5 yX5_uses yX5_uses, Cond.code yX5_uses cX5_uses 4 (some .int), Cond.methodLink RX5 32 yX5_kind, Cond.instanceMethod yX5_kind, Cond.selects RX5 yX5_kind yX5_kind, Cond.code yX5_kind cX5_kind 2 (some .int), Cond.static yX7_at, Cond.code yX7_at cX7_at 2 (some .int), Cond.static yX7_takesFirst, Cond.code yX7_takesFirst cX7_takesFirst 1 (some .boolean), Cond.methodLink RX5 40 yX5_first, Cond.instanceMethod yX5_first, Cond.selects RX5 yX5_first yX5_first, Cond.code yX5_first cX5_first 2 (some .int), Cond.static yX7_bit, Cond.code yX7_bit cX7_bit 1 (some .int), Cond.static yX7_takesSecond, Cond.code yX7_takesSecond cX7_takesSecond 1 (some .boolean), Cond.methodLink RX5 49 yX5_second, Cond.instanceMethod yX5_second]
def wsL_law0_r6 : List Cond := [Cond.selects RX5 yX5_second yX5_second, Cond.code yX5_second cX5_second 2 (some .int), Cond.static yX7_put, Cond.code yX7_put cX7_put 3 none, Cond.methodLink RX4 59 yX4_reach, Cond.instanceMethod yX4_reach, Cond.selects RX4 yX4_reach yX4_reach, Cond.code yX4_reach cX4_reach 2 (some .int), Cond.static yX7_has, Cond.code yX7_has cX7_has 2 (some .boolean), Cond.methodLink RX7 202 yX7_bit, Cond.methodLink RX4 25 yX4_findGroups, Cond.instanceMethod yX4_findGroups, Cond.selects RX4 yX4_findGroups yX4_findGroups, Cond.code yX4_findGroups cX4_findGroups 4 none, Cond.methodLink RX4 36 yX4_isReady, Cond.instanceMethod yX4_isReady, Cond.selects RX4 yX4_isReady yX4_isReady, Cond.code yX4_isReady cX4_isReady 2 (some .boolean), Cond.methodLink RX4 47 yX4_groupOf, Cond.instanceMethod yX4_groupOf, Cond.selects RX4 yX4_groupOf yX4_groupOf, Cond.code yX4_groupOf cX4_groupOf 2 (some .int), Cond.methodLink RX4 40 yX4_isCircular]
def wsL_law0_r7 : List Cond := [Cond.instanceMethod yX4_isCircular, Cond.selects RX4 yX4_isCircular yX4_isCircular, Cond.code yX4_isCircular cX4_isCircular 2 (some .boolean), Cond.methodLink RX4 43 yX4_place, Cond.instanceMethod yX4_place, Cond.selects RX4 yX4_place yX4_place, Cond.code yX4_place cX4_place 2 none, Cond.methodLink RX4 51 yX4_placeCircle, Cond.instanceMethod yX4_placeCircle, Cond.selects RX4 yX4_placeCircle yX4_placeCircle, Cond.code yX4_placeCircle cX4_placeCircle 6 (some .boolean), Cond.fieldLink RX4 87 "TaxEngine$Plan" "rising" "I", Cond.fieldLink RX4 90 "TaxEngine$Plan" "falling" "I", Cond.methodLink RX4 80 yX4_onlyLimit, Cond.instanceMethod yX4_onlyLimit, Cond.selects RX4 yX4_onlyLimit yX4_onlyLimit, Cond.code yX4_onlyLimit cX4_onlyLimit 5 (some .int), Cond.methodLink RX4 100 yX5_kind, Cond.methodLink RX4 84 yX5_first, Cond.methodLink RX4 93 yX4_direct, Cond.instanceMethod yX4_direct, Cond.selects RX4 yX4_direct yX4_direct, Cond.code yX4_direct cX4_direct 8 none, Cond.methodLink RX4 97 yX5_second]
def wsL_law0_r8 : List Cond := [Cond.methodLink RL 74 yX8_init, Cond.instanceMethod yX8_init, Cond.code yX8_init cX8_init 1 none, Cond.methodLink RX8 1 objectInit, Cond.fieldLink RX8 7 "TaxEngineModel" "kind" "[I", Cond.fieldLink RX8 13 "TaxEngineModel" "first" "[I", Cond.fieldLink RX8 16 "TaxEngineModel" "second" "[I", Cond.fieldLink RX8 19 "TaxEngineModel" "answer" "[I", Cond.fieldLink RX8 22 "TaxEngineModel" "threshold" "[I", Cond.fieldLink RX8 25 "TaxEngineModel" "rate" "[I", Cond.fieldLink RX8 28 "TaxEngineModel" "amount" "[I", Cond.fieldLink RX8 31 "TaxEngineModel" "last" "[I", Cond.fieldLink RX8 34 "TaxEngineModel" "credit" "[I", Cond.fieldLink RX8 37 "TaxEngineModel" "worth" "[I", Cond.fieldLink RX8 40 "TaxEngineModel" "value" "[I", Cond.arrayClass .boolean, Cond.fieldLink RX8 43 "TaxEngineModel" "known" "[Z", Cond.fieldLink RX8 47 "TaxEngineModel" "needs" "[I", Cond.fieldLink RX8 50 "TaxEngineModel" "moves" "[I", Cond.fieldLink RX8 53 "TaxEngineModel" "row" "[I", Cond.fieldLink RX8 56 "TaxEngineModel" "held" "[I", Cond.fieldLink RX8 59 "TaxEngineModel" "order" "[I", Cond.fieldLink RX8 62 "TaxEngineModel" "best" "[I", Cond.methodLink RL 75 yL_define]
def wsL_law0_r9 : List Cond := [Cond.static yL_define, Cond.initialized RL, Cond.codeWith yL_define cL_define 6 (some .int) [(0, 9, 12, 13), (0, 9, 16, 15), (0, 9, 20, 17)], Cond.classLink RL 13 "java/lang/IndexOutOfBoundsException", Cond.classLink RL 15 "java/lang/IllegalArgumentException", Cond.classLink RL 17 "java/lang/IllegalStateException", Cond.methodLink RL 7 yX7_define, Cond.instanceMethod yX7_define, Cond.selects RX7 yX7_define yX7_define, Cond.code yX7_define cX7_define 9 none, Cond.classLink RX7 100 "java/lang/IllegalStateException", Cond.initialized "java/lang/IllegalStateException", Cond.methodLink RX7 67 yX7_checkLine, Cond.static yX7_checkLine, Cond.code yX7_checkLine cX7_checkLine 1 none, Cond.methodLink RX7 71 yX7_isWithin, Cond.static yX7_isWithin, Cond.code yX7_isWithin cX7_isWithin 3 (some .boolean), Cond.methodLink RX7 134 yX7_checkPlace, Cond.static yX7_checkPlace, Cond.code yX7_checkPlace cX7_checkPlace 1 none, Cond.classLink RX7 196 "java/lang/IndexOutOfBoundsException", Cond.initialized "java/lang/IndexOutOfBoundsException", Cond.methodLink RX7 75 yX7_takesFirst]
def wsL_law0_r10 : List Cond := [Cond.methodLink RX7 79 yX7_takesSecond, Cond.methodLink RX7 82 yX7_checkArgument, Cond.static yX7_checkArgument, Cond.code yX7_checkArgument cX7_checkArgument 1 none, Cond.classLink RX7 199 "java/lang/IllegalArgumentException", Cond.initialized "java/lang/IllegalArgumentException", Cond.methodLink RX7 86 yX5_kind, Cond.methodLink RX7 90 yX5_first, Cond.methodLink RX7 93 yX5_second, Cond.methodLink RX7 96 yX5_set, Cond.instanceMethod yX5_set, Cond.selects RX5 yX5_set yX5_set, Cond.code yX5_set cX5_set 5 none, Cond.methodLink RL 80 yX8_define, Cond.instanceMethod yX8_define, Cond.selects RX8 yX8_define yX8_define, Cond.code yX8_define cX8_define 11 none, Cond.fieldLink RX8 65 "TaxEngineModel" "thrown" "I", Cond.methodLink RX8 69 yX8_isIn, Cond.static yX8_isIn, Cond.code yX8_isIn cX8_isIn 3 (some .boolean), Cond.methodLink RX8 98 yX8_isLine, Cond.static yX8_isLine, Cond.code yX8_isLine cX8_isLine 1 (some .boolean)]
def wsL_law0_r11 : List Cond := [Cond.methodLink RX8 101 yX8_isAllowed, Cond.instanceMethod yX8_isAllowed, Cond.selects RX8 yX8_isAllowed yX8_isAllowed, Cond.code yX8_isAllowed cX8_isAllowed 8 (some .boolean), Cond.methodLink RX8 88 yX8_laysNeeds, Cond.instanceMethod yX8_laysNeeds, Cond.selects RX8 yX8_laysNeeds yX8_laysNeeds, Cond.code yX8_laysNeeds cX8_laysNeeds 5 none, Cond.methodLink RX8 73 yX8_usesFirst, Cond.instanceMethod yX8_usesFirst, Cond.selects RX8 yX8_usesFirst yX8_usesFirst, Cond.code yX8_usesFirst cX8_usesFirst 2 (some .boolean), Cond.methodLink RX8 77 yX8_usesSecond, Cond.instanceMethod yX8_usesSecond, Cond.selects RX8 yX8_usesSecond yX8_usesSecond, Cond.code yX8_usesSecond cX8_usesSecond 3 (some .boolean), Cond.methodLink RX8 80 yX8_depends, Cond.instanceMethod yX8_depends, Cond.selects RX8 yX8_depends yX8_depends, Cond.code yX8_depends cX8_depends 3 (some .boolean), Cond.methodLink RX8 92 yX8_circle, Cond.instanceMethod yX8_circle, Cond.selects RX8 yX8_circle yX8_circle, Cond.code yX8_circle cX8_circle 4 (some .int)]
def wsL_law0_r12 : List Cond := [Cond.methodLink RX8 95 yX8_isFalling, Cond.instanceMethod yX8_isFalling, Cond.selects RX8 yX8_isFalling yX8_isFalling, Cond.code yX8_isFalling cX8_isFalling 5 (some .boolean), Cond.methodLink RX8 84 yX8_turned, Cond.static yX8_turned, Cond.code yX8_turned cX8_turned 1 (some .int), Cond.methodLink RL 81 yX8_thrown, Cond.instanceMethod yX8_thrown, Cond.selects RX8 yX8_thrown yX8_thrown, Cond.code yX8_thrown cX8_thrown 1 (some .int), Cond.methodLink RL 84 yL_answer, Cond.static yL_answer, Cond.codeWith yL_answer cL_answer 5 (some .int) [(0, 10, 13, 13), (0, 10, 17, 15)], Cond.methodLink RL 19 yX7_answer, Cond.instanceMethod yX7_answer, Cond.selects RX7 yX7_answer yX7_answer, Cond.code yX7_answer cX7_answer 4 (some .int), Cond.constant RX7 103 (1000000), Cond.methodLink RX7 104 yX5_given, Cond.instanceMethod yX5_given, Cond.selects RX5 yX5_given yX5_given, Cond.code yX5_given cX5_given 2 (some .int), Cond.methodLink RX7 107 yX5_give]
def wsL_law0_r13 : List Cond := [Cond.instanceMethod yX5_give, Cond.selects RX5 yX5_give yX5_give, Cond.code yX5_give cX5_give 3 none, Cond.methodLink RL 87 yX8_answer, Cond.instanceMethod yX8_answer, Cond.selects RX8 yX8_answer yX8_answer, Cond.code yX8_answer cX8_answer 4 (some .int), Cond.constant RX8 105 (1000000), Cond.methodLink RL 88 yL_kindOf, Cond.static yL_kindOf, Cond.codeWith yL_kindOf cL_kindOf 4 (some .int) [(0, 9, 12, 13)], Cond.methodLink RL 23 yX7_kindOf, Cond.instanceMethod yX7_kindOf, Cond.selects RX7 yX7_kindOf yX7_kindOf, Cond.code yX7_kindOf cX7_kindOf 2 (some .int), Cond.methodLink RL 91 yX8_kindOf, Cond.instanceMethod yX8_kindOf, Cond.selects RX8 yX8_kindOf yX8_kindOf, Cond.code yX8_kindOf cX8_kindOf 2 (some .int), Cond.methodLink RL 92 yL_value, Cond.static yL_value, Cond.codeWith yL_value cL_value 4 (some .int) [(0, 9, 12, 13)], Cond.methodLink RL 27 yX7_value, Cond.instanceMethod yX7_value]
def wsL_law0_r14 : List Cond := [Cond.selects RX7 yX7_value yX7_value, Cond.code yX7_value cX7_value 2 (some .int), Cond.methodLink RX7 111 yX6_workOut, Cond.instanceMethod yX6_workOut, Cond.selects RX6 yX6_workOut yX6_workOut, Cond.code yX6_workOut cX6_workOut 5 none, Cond.methodLink RX6 39 yX4_lineAt, Cond.instanceMethod yX4_lineAt, Cond.selects RX4 yX4_lineAt yX4_lineAt, Cond.code yX4_lineAt cX4_lineAt 2 (some .int), Cond.methodLink RX6 45 yX5_kind, Cond.methodLink RX6 50 yX4_isCircular, Cond.methodLink RX6 54 yX6_greatest, Cond.instanceMethod yX6_greatest, Cond.selects RX6 yX6_greatest yX6_greatest, Cond.code yX6_greatest cX6_greatest 7 (some .int), Cond.methodLink RX6 72 yX5_first, Cond.methodLink RX6 75 yX6_of, Cond.instanceMethod yX6_of, Cond.selects RX6 yX6_of yX6_of, Cond.code yX6_of cX6_of 2 (some .int), Cond.methodLink RX6 78 yX6_suppose, Cond.instanceMethod yX6_suppose, Cond.selects RX6 yX6_suppose yX6_suppose]
def wsL_law0_r15 : List Cond := [Cond.code yX6_suppose cX6_suppose 7 none, Cond.methodLink RX6 64 yX4_groupOf, Cond.methodLink RX6 67 yJ6_bitCount_0f7a4, Cond.static yJ6_bitCount_0f7a4, Cond.initialized RJ6, Cond.code yJ6_bitCount_0f7a4 cJ6_bitCount_0f7a4 1 (some .int), Cond.constant RJ6 265 (1431655765), Cond.constant RJ6 266 (858993459), Cond.constant RJ6 267 (252645135), Cond.methodLink RX6 57 yX6_plain, Cond.instanceMethod yX6_plain, Cond.selects RX6 yX6_plain yX6_plain, Cond.code yX6_plain cX6_plain 4 (some .int), Cond.constant RX6 85 (1000000000), Cond.methodLink RX6 86 Lib.Math.min.name, Cond.static Lib.Math.min.name, Cond.initialized "java/lang/Math", Cond.code Lib.Math.min.name Lib.Math.min.code 2 (some .int), Cond.methodLink RX6 92 Lib.Math.max.name, Cond.static Lib.Math.max.name, Cond.code Lib.Math.max.name Lib.Math.max.code 2 (some .int), Cond.methodLink RX6 82 yX5_second, Cond.static yX7_thousandths, Cond.code yX7_thousandths cX7_thousandths 2 (some .int)]
def wsL_law0_r16 : List Cond := [Cond.constantLong RX7 205 (1000), Cond.methodLink RX6 98 yX1_tax, Cond.instanceMethod yX1_tax, Cond.selects RX1 yX1_tax yX1_tax, Cond.code yX1_tax cX1_tax 6 (some .int), Cond.fieldLink RX1 18 "TaxEngine$Brackets" "count" "I", Cond.methodLink RX1 38 Lib.Math.min.name, Cond.methodLink RX1 44 Lib.Math.max.name, Cond.methodLink RX6 103 yX0_total, Cond.instanceMethod yX0_total, Cond.selects RX0 yX0_total yX0_total, Cond.code yX0_total cX0_total 3 (some .int), Cond.fieldLink RX0 22 "TaxEngine$Amounts" "count" "I", Cond.methodLink RX0 29 yX0_leftAt, Cond.instanceMethod yX0_leftAt, Cond.selects RX0 yX0_leftAt yX0_leftAt, Cond.code yX0_leftAt cX0_leftAt 2 (some .int), Cond.methodLink RX6 109 yX5_given, Cond.methodLink RX7 114 yX6_of, Cond.methodLink RL 94 yX8_value, Cond.instanceMethod yX8_value, Cond.selects RX8 yX8_value yX8_value, Cond.code yX8_value cX8_value 2 (some .int), Cond.methodLink RX8 135 yX8_solves]
def wsL_law0_r17 : List Cond := [Cond.instanceMethod yX8_solves, Cond.selects RX8 yX8_solves yX8_solves, Cond.code yX8_solves cX8_solves 5 none, Cond.methodLink RX8 126 yX8_passes, Cond.instanceMethod yX8_passes, Cond.selects RX8 yX8_passes yX8_passes, Cond.code yX8_passes cX8_passes 5 none, Cond.methodLink RX8 122 yX8_works, Cond.instanceMethod yX8_works, Cond.selects RX8 yX8_works yX8_works, Cond.code yX8_works cX8_works 7 (some .int), Cond.constant RX8 109 (1000000000), Cond.constantLong RX8 110 (1000), Cond.methodLink RX8 115 yX8_taxed, Cond.instanceMethod yX8_taxed, Cond.selects RX8 yX8_taxed yX8_taxed, Cond.code yX8_taxed cX8_taxed 8 (some .int), Cond.fieldLink RX8 106 "TaxEngineModel" "brackets" "I", Cond.methodLink RX8 118 yX8_all, Cond.instanceMethod yX8_all, Cond.selects RX8 yX8_all yX8_all, Cond.code yX8_all cX8_all 3 (some .int), Cond.fieldLink RX8 112 "TaxEngineModel" "amounts" "I", Cond.methodLink RX8 129 yX8_tries]
def wsL_law0_r18 : List Cond := [Cond.instanceMethod yX8_tries, Cond.selects RX8 yX8_tries yX8_tries, Cond.code yX8_tries cX8_tries 4 (some .boolean), Cond.methodLink RX8 132 yX8_halves, Cond.instanceMethod yX8_halves, Cond.selects RX8 yX8_halves yX8_halves, Cond.code yX8_halves cX8_halves 5 none, Cond.methodLink RL 95 yL_boundFor, Cond.static yL_boundFor, Cond.codeWith yL_boundFor cL_boundFor 5 (some .int) [(0, 10, 13, 13), (0, 10, 17, 15), (0, 10, 21, 17)], Cond.methodLink RL 30 yX7_boundFor, Cond.instanceMethod yX7_boundFor, Cond.selects RX7 yX7_boundFor yX7_boundFor, Cond.code yX7_boundFor cX7_boundFor 3 (some .int), Cond.constant RX7 117 (1000000000), Cond.methodLink RX7 118 yX7_checkState, Cond.static yX7_checkState, Cond.code yX7_checkState cX7_checkState 1 none, Cond.methodLink RX7 121 yX4_placeOf, Cond.instanceMethod yX4_placeOf, Cond.selects RX4 yX4_placeOf yX4_placeOf, Cond.code yX4_placeOf cX4_placeOf 3 (some .int), Cond.methodLink RX4 65 yX4_lineAt, Cond.methodLink RX7 124 yX6_suppose]
def wsL_law0_r19 : List Cond := [Cond.methodLink RL 97 yX8_boundFor, Cond.instanceMethod yX8_boundFor, Cond.selects RX8 yX8_boundFor yX8_boundFor, Cond.code yX8_boundFor cX8_boundFor 3 (some .int), Cond.methodLink RL 98 yL_dependsOn, Cond.static yL_dependsOn, Cond.codeWith yL_dependsOn cL_dependsOn 5 (some .int) [(0, 17, 20, 13)], Cond.methodLink RL 33 yX7_dependsOn, Cond.instanceMethod yX7_dependsOn, Cond.selects RX7 yX7_dependsOn yX7_dependsOn, Cond.code yX7_dependsOn cX7_dependsOn 3 (some .boolean), Cond.methodLink RX7 127 yX4_reach, Cond.methodLink RX7 130 yX7_has, Cond.methodLink RL 100 yX8_dependsOn, Cond.instanceMethod yX8_dependsOn, Cond.selects RX8 yX8_dependsOn yX8_dependsOn, Cond.code yX8_dependsOn cX8_dependsOn 3 (some .boolean), Cond.methodLink RL 101 yL_influence, Cond.static yL_influence, Cond.codeWith yL_influence cL_influence 4 (some .int) [(0, 9, 12, 13)], Cond.methodLink RL 37 yX7_influence, Cond.instanceMethod yX7_influence, Cond.selects RX7 yX7_influence yX7_influence, Cond.code yX7_influence cX7_influence 4 (some .int)]
def wsL_law0_r20 : List Cond := [Cond.methodLink RL 103 yX8_influence, Cond.instanceMethod yX8_influence, Cond.selects RX8 yX8_influence yX8_influence, Cond.code yX8_influence cX8_influence 4 (some .int), Cond.methodLink RL 104 yL_why, Cond.static yL_why, Cond.codeWith yL_why cL_why 5 (some .int) [(0, 10, 13, 13)], Cond.methodLink RL 40 yX7_why, Cond.instanceMethod yX7_why, Cond.selects RX7 yX7_why yX7_why, Cond.code yX7_why cX7_why 3 (some .int), Cond.methodLink RX7 137 yX3_explain, Cond.instanceMethod yX3_explain, Cond.selects RX3 yX3_explain yX3_explain, Cond.code yX3_explain cX3_explain 5 none, Cond.fieldLink RX3 15 "TaxEngine$Explanation" "size" "I", Cond.fieldLink RX3 19 "TaxEngine$Explanation" "taken" "I", Cond.methodLink RX3 22 yX3_add, Cond.instanceMethod yX3_add, Cond.selects RX3 yX3_add yX3_add, Cond.code yX3_add cX3_add 2 none, Cond.methodLink RX3 30 yX3_addReasons, Cond.instanceMethod yX3_addReasons, Cond.selects RX3 yX3_addReasons yX3_addReasons]
def wsL_law0_r21 : List Cond := [Cond.code yX3_addReasons cX3_addReasons 5 none, Cond.methodLink RX3 46 yX5_first, Cond.methodLink RX3 51 yX5_kind, Cond.methodLink RX3 54 yX5_second, Cond.methodLink RX3 57 yX6_of, Cond.methodLink RX7 141 yX3_lineAt, Cond.instanceMethod yX3_lineAt, Cond.selects RX3 yX3_lineAt yX3_lineAt, Cond.code yX3_lineAt cX3_lineAt 2 (some .int), Cond.methodLink RL 106 yX8_why, Cond.instanceMethod yX8_why, Cond.selects RX8 yX8_why yX8_why, Cond.code yX8_why cX8_why 11 (some .int), Cond.methodLink RL 107 yL_bracket, Cond.static yL_bracket, Cond.codeWith yL_bracket cL_bracket 5 (some .int) [(0, 10, 13, 15), (0, 10, 17, 17)], Cond.methodLink RL 43 yX7_bracket, Cond.instanceMethod yX7_bracket, Cond.selects RX7 yX7_bracket yX7_bracket, Cond.code yX7_bracket cX7_bracket 3 (some .int), Cond.methodLink RX7 144 yX1_hasRoomFor, Cond.instanceMethod yX1_hasRoomFor, Cond.selects RX1 yX1_hasRoomFor yX1_hasRoomFor, Cond.code yX1_hasRoomFor cX1_hasRoomFor 2 (some .boolean)]
def wsL_law0_r22 : List Cond := [Cond.methodLink RX1 22 yX1_placeFor, Cond.instanceMethod yX1_placeFor, Cond.selects RX1 yX1_placeFor yX1_placeFor, Cond.code yX1_placeFor cX1_placeFor 3 (some .int), Cond.methodLink RX1 26 yX1_isAt, Cond.instanceMethod yX1_isAt, Cond.selects RX1 yX1_isAt yX1_isAt, Cond.code yX1_isAt cX1_isAt 3 (some .boolean), Cond.methodLink RX7 147 yX1_set, Cond.instanceMethod yX1_set, Cond.selects RX1 yX1_set yX1_set, Cond.code yX1_set cX1_set 5 none, Cond.methodLink RX7 149 yX1_size, Cond.instanceMethod yX1_size, Cond.selects RX1 yX1_size yX1_size, Cond.code yX1_size cX1_size 1 (some .int), Cond.methodLink RL 109 yX8_bracket, Cond.instanceMethod yX8_bracket, Cond.selects RX8 yX8_bracket yX8_bracket, Cond.code yX8_bracket cX8_bracket 5 (some .int), Cond.methodLink RL 110 yX7_dropBrackets, Cond.instanceMethod yX7_dropBrackets, Cond.selects RX7 yX7_dropBrackets yX7_dropBrackets, Cond.code yX7_dropBrackets cX7_dropBrackets 2 (some .int)]
def wsL_law0_r23 : List Cond := [Cond.methodLink RX7 153 yX1_clear, Cond.instanceMethod yX1_clear, Cond.selects RX1 yX1_clear yX1_clear, Cond.code yX1_clear cX1_clear 1 none, Cond.methodLink RL 113 yX8_dropBrackets, Cond.instanceMethod yX8_dropBrackets, Cond.selects RX8 yX8_dropBrackets yX8_dropBrackets, Cond.code yX8_dropBrackets cX8_dropBrackets 2 (some .int), Cond.methodLink RL 114 yL_taxOn, Cond.static yL_taxOn, Cond.codeWith yL_taxOn cL_taxOn 4 (some .int) [(0, 9, 12, 15)], Cond.methodLink RL 46 yX7_taxOn, Cond.instanceMethod yX7_taxOn, Cond.selects RX7 yX7_taxOn yX7_taxOn, Cond.code yX7_taxOn cX7_taxOn 2 (some .int), Cond.methodLink RX7 156 yX1_tax, Cond.methodLink RL 116 yX8_taxOn, Cond.instanceMethod yX8_taxOn, Cond.selects RX8 yX8_taxOn yX8_taxOn, Cond.code yX8_taxOn cX8_taxOn 2 (some .int), Cond.methodLink RL 117 yL_carry, Cond.static yL_carry, Cond.codeWith yL_carry cL_carry 5 (some .int) [(0, 10, 13, 15), (0, 10, 17, 17)], Cond.methodLink RL 49 yX7_carry]
def wsL_law0_r24 : List Cond := [Cond.instanceMethod yX7_carry, Cond.selects RX7 yX7_carry yX7_carry, Cond.code yX7_carry cX7_carry 4 (some .int), Cond.methodLink RX7 159 yX0_now, Cond.instanceMethod yX0_now, Cond.selects RX0 yX0_now yX0_now, Cond.code yX0_now cX0_now 1 (some .int), Cond.fieldLink RX0 18 "TaxEngine$Amounts" "now" "I", Cond.methodLink RX7 162 yX0_size, Cond.instanceMethod yX0_size, Cond.selects RX0 yX0_size yX0_size, Cond.code yX0_size cX0_size 1 (some .int), Cond.methodLink RX7 163 yX0_add, Cond.instanceMethod yX0_add, Cond.selects RX0 yX0_add yX0_add, Cond.code yX0_add cX0_add 4 none, Cond.methodLink RX0 33 yX0_move, Cond.instanceMethod yX0_move, Cond.selects RX0 yX0_move yX0_move, Cond.code yX0_move cX0_move 3 none, Cond.methodLink RX7 166 yX0_total, Cond.methodLink RL 119 yX8_carry, Cond.instanceMethod yX8_carry, Cond.selects RX8 yX8_carry yX8_carry]
def wsL_law0_r25 : List Cond := [Cond.code yX8_carry cX8_carry 4 (some .int), Cond.fieldLink RX8 139 "TaxEngineModel" "year" "I", Cond.methodLink RL 120 yX7_carried, Cond.instanceMethod yX7_carried, Cond.selects RX7 yX7_carried yX7_carried, Cond.code yX7_carried cX7_carried 1 (some .int), Cond.methodLink RL 123 yX8_carried, Cond.instanceMethod yX8_carried, Cond.selects RX8 yX8_carried yX8_carried, Cond.code yX8_carried cX8_carried 1 (some .int), Cond.methodLink RL 124 yL_carriedAt, Cond.static yL_carriedAt, Cond.codeWith yL_carriedAt cL_carriedAt 4 (some .int) [(0, 9, 12, 13)], Cond.methodLink RL 52 yX7_carriedAt, Cond.instanceMethod yX7_carriedAt, Cond.selects RX7 yX7_carriedAt yX7_carriedAt, Cond.code yX7_carriedAt cX7_carriedAt 2 (some .int), Cond.methodLink RX7 169 yX0_leftAt, Cond.methodLink RL 126 yX8_carriedAt, Cond.instanceMethod yX8_carriedAt, Cond.selects RX8 yX8_carriedAt yX8_carriedAt, Cond.code yX8_carriedAt cX8_carriedAt 2 (some .int), Cond.methodLink RL 127 yX7_year, Cond.instanceMethod yX7_year]
def wsL_law0_r26 : List Cond := [Cond.selects RX7 yX7_year yX7_year, Cond.code yX7_year cX7_year 1 (some .int), Cond.methodLink RL 130 yX8_year, Cond.instanceMethod yX8_year, Cond.selects RX8 yX8_year yX8_year, Cond.code yX8_year cX8_year 1 (some .int), Cond.methodLink RL 131 yX7_closeYear, Cond.instanceMethod yX7_closeYear, Cond.selects RX7 yX7_closeYear yX7_closeYear, Cond.code yX7_closeYear cX7_closeYear 3 (some .int), Cond.methodLink RX7 172 yX0_take, Cond.instanceMethod yX0_take, Cond.selects RX0 yX0_take yX0_take, Cond.code yX0_take cX0_take 5 (some .int), Cond.methodLink RX0 41 Lib.Math.min.name, Cond.methodLink RX7 175 yX0_endYear, Cond.instanceMethod yX0_endYear, Cond.selects RX0 yX0_endYear yX0_endYear, Cond.code yX0_endYear cX0_endYear 3 none, Cond.methodLink RL 134 yX8_closeYear, Cond.instanceMethod yX8_closeYear, Cond.selects RX8 yX8_closeYear yX8_closeYear, Cond.code yX8_closeYear cX8_closeYear 4 (some .int), Cond.methodLink RX8 142 yX8_spends]
def wsL_law0_r27 : List Cond := [Cond.instanceMethod yX8_spends, Cond.selects RX8 yX8_spends yX8_spends, Cond.code yX8_spends cX8_spends 5 (some .int), Cond.methodLink RL 135 yL_addCredit, Cond.static yL_addCredit, Cond.codeWith yL_addCredit cL_addCredit 5 (some .int) [(0, 10, 13, 15), (0, 10, 17, 17)], Cond.methodLink RL 55 yX7_addCredit, Cond.instanceMethod yX7_addCredit, Cond.selects RX7 yX7_addCredit yX7_addCredit, Cond.code yX7_addCredit cX7_addCredit 3 (some .int), Cond.methodLink RX7 178 yX2_size, Cond.instanceMethod yX2_size, Cond.selects RX2 yX2_size yX2_size, Cond.code yX2_size cX2_size 1 (some .int), Cond.fieldLink RX2 24 "TaxEngine$Credits" "count" "I", Cond.methodLink RX7 179 yX2_add, Cond.instanceMethod yX2_add, Cond.selects RX2 yX2_add yX2_add, Cond.code yX2_add cX2_add 3 none, Cond.methodLink RL 137 yX8_addCredit, Cond.instanceMethod yX8_addCredit, Cond.selects RX8 yX8_addCredit yX8_addCredit, Cond.code yX8_addCredit cX8_addCredit 3 (some .int), Cond.fieldLink RX8 145 "TaxEngineModel" "credits" "I"]
def wsL_law0_r28 : List Cond := [Cond.methodLink RL 138 yL_dropCredit, Cond.static yL_dropCredit, Cond.codeWith yL_dropCredit cL_dropCredit 3 (some .int) [(0, 8, 11, 17)], Cond.methodLink RL 58 yX7_dropCredit, Cond.instanceMethod yX7_dropCredit, Cond.selects RX7 yX7_dropCredit yX7_dropCredit, Cond.code yX7_dropCredit cX7_dropCredit 1 (some .int), Cond.methodLink RX7 180 yX2_dropLast, Cond.instanceMethod yX2_dropLast, Cond.selects RX2 yX2_dropLast yX2_dropLast, Cond.code yX2_dropLast cX2_dropLast 1 none, Cond.methodLink RL 141 yX8_dropCredit, Cond.instanceMethod yX8_dropCredit, Cond.selects RX8 yX8_dropCredit yX8_dropCredit, Cond.code yX8_dropCredit cX8_dropCredit 1 (some .int), Cond.methodLink RL 142 yL_creditAt, Cond.static yL_creditAt, Cond.codeWith yL_creditAt cL_creditAt 5 (some .int) [(0, 10, 13, 13)], Cond.methodLink RL 62 yX7_creditAt, Cond.instanceMethod yX7_creditAt, Cond.selects RX7 yX7_creditAt yX7_creditAt, Cond.code yX7_creditAt cX7_creditAt 3 (some .int), Cond.methodLink RX7 183 yX2_findBest, Cond.instanceMethod yX2_findBest]
def wsL_law0_r29 : List Cond := [Cond.selects RX2 yX2_findBest yX2_findBest, Cond.code yX2_findBest cX2_findBest 6 (some .int), Cond.methodLink RX2 36 yX2_sumInOrder, Cond.instanceMethod yX2_sumInOrder, Cond.selects RX2 yX2_sumInOrder yX2_sumInOrder, Cond.code yX2_sumInOrder cX2_sumInOrder 7 (some .int), Cond.methodLink RX2 47 Lib.Math.min.name, Cond.methodLink RX2 40 yX2_keepOrder, Cond.instanceMethod yX2_keepOrder, Cond.selects RX2 yX2_keepOrder yX2_keepOrder, Cond.code yX2_keepOrder cX2_keepOrder 2 none, Cond.methodLink RX2 43 yX2_toNextOrder, Cond.instanceMethod yX2_toNextOrder, Cond.selects RX2 yX2_toNextOrder yX2_toNextOrder, Cond.code yX2_toNextOrder cX2_toNextOrder 5 (some .boolean), Cond.methodLink RX2 56 yX2_swap, Cond.instanceMethod yX2_swap, Cond.selects RX2 yX2_swap yX2_swap, Cond.code yX2_swap cX2_swap 4 none, Cond.methodLink RX7 186 yX2_bestAt, Cond.instanceMethod yX2_bestAt, Cond.selects RX2 yX2_bestAt yX2_bestAt, Cond.code yX2_bestAt cX2_bestAt 2 (some .int), Cond.methodLink RL 144 yX8_creditAt]
def wsL_law0_r30 : List Cond := [Cond.instanceMethod yX8_creditAt, Cond.selects RX8 yX8_creditAt yX8_creditAt, Cond.code yX8_creditAt cX8_creditAt 3 (some .int), Cond.methodLink RX8 157 yX8_orders, Cond.instanceMethod yX8_orders, Cond.selects RX8 yX8_orders yX8_orders, Cond.code yX8_orders cX8_orders 5 none, Cond.fieldLink RX8 148 "TaxEngineModel" "bestSum" "I", Cond.methodLink RX8 151 yX8_laysOrder, Cond.instanceMethod yX8_laysOrder, Cond.selects RX8 yX8_laysOrder yX8_laysOrder, Cond.code yX8_laysOrder cX8_laysOrder 5 (some .boolean), Cond.methodLink RX8 154 yX8_comes, Cond.instanceMethod yX8_comes, Cond.selects RX8 yX8_comes yX8_comes, Cond.code yX8_comes cX8_comes 7 (some .int), Cond.methodLink RL 145 yL_afterCredits, Cond.static yL_afterCredits, Cond.codeWith yL_afterCredits cL_afterCredits 4 (some .int) [(0, 9, 12, 13)], Cond.methodLink RL 65 yX7_afterCredits, Cond.instanceMethod yX7_afterCredits, Cond.selects RX7 yX7_afterCredits yX7_afterCredits, Cond.code yX7_afterCredits cX7_afterCredits 3 (some .int), Cond.methodLink RX7 190 Lib.Math.min.name]
def wsL_law0_r31 : List Cond := [Cond.methodLink RX7 189 yX2_total, Cond.instanceMethod yX2_total, Cond.selects RX2 yX2_total yX2_total, Cond.code yX2_total cX2_total 3 (some .int), Cond.methodLink RL 147 yX8_afterCredits, Cond.instanceMethod yX8_afterCredits, Cond.selects RX8 yX8_afterCredits yX8_afterCredits, Cond.code yX8_afterCredits cX8_afterCredits 4 (some .int), Cond.methodLink RL 148 yL_bestSum, Cond.static yL_bestSum, Cond.codeWith yL_bestSum cL_bestSum 4 (some .int) [(0, 9, 12, 13)], Cond.methodLink RL 68 yX7_bestSum, Cond.instanceMethod yX7_bestSum, Cond.selects RX7 yX7_bestSum yX7_bestSum, Cond.code yX7_bestSum cX7_bestSum 2 (some .int), Cond.methodLink RL 150 yX8_bestSum, Cond.instanceMethod yX8_bestSum, Cond.selects RX8 yX8_bestSum yX8_bestSum, Cond.code yX8_bestSum cX8_bestSum 2 (some .int)]
def wsL_law0 : List Cond := (wsL_law0_r1 ++ (wsL_law0_r2 ++ (wsL_law0_r3 ++ (wsL_law0_r4 ++ (wsL_law0_r5 ++ (wsL_law0_r6 ++ (wsL_law0_r7 ++ (wsL_law0_r8 ++ (wsL_law0_r9 ++ (wsL_law0_r10 ++ (wsL_law0_r11 ++ (wsL_law0_r12 ++ (wsL_law0_r13 ++ (wsL_law0_r14 ++ (wsL_law0_r15 ++ (wsL_law0_r16 ++ (wsL_law0_r17 ++ (wsL_law0_r18 ++ (wsL_law0_r19 ++ (wsL_law0_r20 ++ (wsL_law0_r21 ++ (wsL_law0_r22 ++ (wsL_law0_r23 ++ (wsL_law0_r24 ++ (wsL_law0_r25 ++ (wsL_law0_r26 ++ (wsL_law0_r27 ++ (wsL_law0_r28 ++ (wsL_law0_r29 ++ (wsL_law0_r30 ++ wsL_law0_r31)))))))))))))))))))))))))))))) ++ wsX70 ++ wsX80 ++ wsX50 ++ wsX40 ++ wsX10 ++ wsX00 ++ wsX20 ++ wsX60 ++ wsX30 ++ ([] : List Cond)
def wsL_law : List Cond := wsL_law0 ++ (vx_at0 RX7 102 "java/lang/IllegalStateException" ["java/lang/RuntimeException", "java/lang/Exception"]).filter goodWord ++ (vx_at0 RX7 198 "java/lang/IndexOutOfBoundsException" ["java/lang/RuntimeException", "java/lang/Exception"]).filter goodWord ++ (vx_at0 RX7 201 "java/lang/IllegalArgumentException" ["java/lang/RuntimeException", "java/lang/Exception"]).filter goodWord
abbrev vwCl : List vw_C := [(RX0, TX0, 4), (RX1, TX1, 3), (RX2, TX2, 5), (RX3, TX3, 3), (RX4, TX4, 7), (RX5, TX5, 4), (RX6, TX6, 6), (RX7, TX7, 8), (RX8, TX8, 24)]
end
section
/-! a layer over the kit: a world of fixed layout; all its numbers are one function zS; its references never change -/
def zN : List (String × Nat × MethodName × String) := [("TaxEngine", 9, ⟨"TaxEngine$Sheet", "<init>", "()V"⟩, "TaxEngine"), ("TaxEngine", 18, ⟨"TaxEngine$Plan", "<init>", "()V"⟩, "TaxEngine"), ("TaxEngine", 25, ⟨"TaxEngine$Brackets", "<init>", "()V"⟩, "TaxEngine"), ("TaxEngine", 32, ⟨"TaxEngine$Amounts", "<init>", "()V"⟩, "TaxEngine"), ("TaxEngine", 39, ⟨"TaxEngine$Credits", "<init>", "()V"⟩, "TaxEngine"), ("TaxEngine", 58, ⟨"TaxEngine$Explanation", "<init>", "()V"⟩, "TaxEngine"), ("TaxEngine$Sheet", 28, ⟨"TaxEngine", "at", "([II)I"⟩, "TaxEngine"), ("TaxEngine$Sheet", 36, ⟨"TaxEngine", "takesFirst", "(I)Z"⟩, "TaxEngine"), ("TaxEngine$Sheet", 43, ⟨"TaxEngine", "bit", "(I)I"⟩, "TaxEngine"), ("TaxEngine$Sheet", 46, ⟨"TaxEngine", "takesSecond", "(I)Z"⟩, "TaxEngine"), ("TaxEngine$Plan", 73, ⟨"TaxEngine", "put", "([III)V"⟩, "TaxEngine"), ("TaxEngine$Plan", 55, ⟨"TaxEngine", "at", "([II)I"⟩, "TaxEngine"), ("TaxEngine$Plan", 61, ⟨"TaxEngine", "has", "(II)Z"⟩, "TaxEngine"), ("TaxEngine$Plan", 77, ⟨"TaxEngine", "bit", "(I)I"⟩, "TaxEngine"), ("TaxEngine$Amounts", 25, ⟨"TaxEngine", "at", "([II)I"⟩, "TaxEngine"), ("TaxEngine$Values", 35, ⟨"TaxEngine", "at", "([II)I"⟩, "TaxEngine"), ("TaxEngine$Values", 60, ⟨"TaxEngine", "put", "([III)V"⟩, "TaxEngine"), ("TaxEngine$Values", 95, ⟨"TaxEngine", "thousandths", "(II)I"⟩, "TaxEngine"), ("TaxEngine$Brackets", 30, ⟨"TaxEngine", "at", "([II)I"⟩, "TaxEngine"), ("TaxEngine$Brackets", 47, ⟨"TaxEngine", "thousandths", "(II)I"⟩, "TaxEngine"), ("TaxEngine$Amounts", 37, ⟨"TaxEngine", "put", "([III)V"⟩, "TaxEngine"), ("TaxEngine$Sheet", 24, ⟨"TaxEngine", "put", "([III)V"⟩, "TaxEngine"), ("TaxEngine$Explanation", 34, ⟨"TaxEngine", "has", "(II)Z"⟩, "TaxEngine"), ("TaxEngine$Explanation", 38, ⟨"TaxEngine", "put", "([III)V"⟩, "TaxEngine"), ("TaxEngine$Explanation", 42, ⟨"TaxEngine", "bit", "(I)I"⟩, "TaxEngine"), ("TaxEngine$Explanation", 26, ⟨"TaxEngine", "at", "([II)I"⟩, "TaxEngine"), ("TaxEngine$Brackets", 34, ⟨"TaxEngine", "put", "([III)V"⟩, "TaxEngine"), ("TaxEngine$Credits", 28, ⟨"TaxEngine", "put", "([III)V"⟩, "TaxEngine"), ("TaxEngine$Credits", 32, ⟨"TaxEngine", "at", "([II)I"⟩, "TaxEngine"), ("TaxEngine$Credits", 53, ⟨"TaxEngine", "thousandths", "(II)I"⟩, "TaxEngine")]
section ZL
/-- a cell: an array (0 of ints, 1 of booleans, 2 of longs that are ints) of a length; an object of a class, its fields: 0 a number, 1 null, r + 2 the cell r -/
abbrev zK : Type := (Nat × Nat) ⊕ (Nat × List Nat)
abbrev zS : Type := Nat → Nat → Int32
def zF (ad : Nat → Nat) (f : Nat → Int32) (j : Nat) (o : Nat) : Value := match o with
  | 0 => .int (f j)
  | 1 => .null
  | r + 2 => .ref (ad r)
def zE (cA : Nat → ClassId) (ad : Nat → Nat) (f : Nat → Int32) (kd : zK) : va_E := match kd with
  | .inl (2, n) => .inl (cA 2, n, .inr (.inl (fun j => (f j).toInt64)))
  | .inl (z, n) => .inl (cA z, n, .inl f)
  | .inr q => .inr (q.1, q.2.mapIdx (zF ad f))
def zW (cA : Nat → ClassId) (ad : Nat → Nat) (lay : List zK) (σ : zS) : va_W := lay.mapIdx (fun k kd => (ad k, zE cA ad (σ k) kd))
def zU (σ : zS) (k j : Nat) (v : Int32) : zS := fun i => if i = k then upd (σ i) j v else σ i
theorem zW_at {cA : Nat → ClassId} {ad : Nat → Nat} {lay : List zK} {σ : zS} {k : Nat} {kd : zK} (h : lay[k]? = some kd) : (zW cA ad lay σ)[k]? = some (ad k, zE cA ad (σ k) kd) := by
  simp [zW, List.getElem?_mapIdx, h]
theorem zW_key {cA : Nat → ClassId} {ad : Nat → Nat} {lay : List zK} {σ : zS} {k : Nat} {q : Nat × va_E} (h : (zW cA ad lay σ)[k]? = some q) : k < lay.length ∧ q.1 = ad k := by
  have hl := (List.getElem?_eq_some_iff.mp h).1
  have hk : k < lay.length := by simpa [zW] using hl
  have h2 := zW_at (cA := cA) (ad := ad) (σ := σ) (List.getElem?_eq_getElem hk)
  rw [h2] at h
  cases h
  exact ⟨hk, rfl⟩
theorem zW_set {cA : Nat → ClassId} {ad : Nat → Nat} {lay : List zK} {σ σ' : zS} {k : Nat} {kd : zK} {e : va_E} (h : lay[k]? = some kd) (he : e = zE cA ad (σ' k) kd) (ho : ∀ i, i ≠ k → σ' i = σ i) : (zW cA ad lay σ).set k (ad k, e) = zW cA ad lay σ' := by
  apply List.ext_getElem?
  intro i
  by_cases hi : i = k
  · subst hi
    have hl : i < (zW cA ad lay σ).length := (List.getElem?_eq_some_iff.mp (zW_at h)).1
    rw [List.getElem?_set_self hl, zW_at h, he]
  · rw [List.getElem?_set_ne (Ne.symm hi)]
    simp only [zW, List.getElem?_mapIdx, ho i hi]
theorem zU_o {σ : zS} {k j : Nat} {v : Int32} : ∀ i, i ≠ k → zU σ k j v i = σ i := fun i hi => by simp [zU, hi]
theorem zU_s {σ : zS} {k j : Nat} {v : Int32} : zU σ k j v k = upd (σ k) j v := by simp [zU]
theorem zF_set {ad : Nat → Nat} {f : Nat → Int32} {fs : List Nat} {j : Nat} {v : Int32} (hj : fs[j]? = some 0) : (fs.mapIdx (zF ad f)).set j (.int v) = fs.mapIdx (zF ad (upd f j v)) := by
  have hl : j < fs.length := (List.getElem?_eq_some_iff.mp hj).1
  apply List.ext_getElem?
  intro i
  by_cases hi : i = j
  · subst hi
    rw [List.getElem?_set_self (by simpa using hl)]
    simp [List.getElem?_mapIdx, hj, zF, upd]
  · rw [List.getElem?_set_ne (Ne.symm hi)]
    simp only [List.getElem?_mapIdx]
    cases hx : fs[i]? with
    | none => rfl
    | some o => rcases o with _ | _ | o <;> simp [zF, upd, hi]
def zT (cA : Nat → ClassId) : List (ClassId × FieldType) := [(cA 0, .int), (cA 1, .boolean), (cA 2, .long)]
def zA (ad : Nat → Nat) (n sz : Nat) : Nat → Prop := fun q => (∃ k, k < n ∧ q = ad k) ∨ sz ≤ q
def zI (ad : Nat → Nat) (n : Nat) : Prop := ∀ i j, i < n → j < n → ad i = ad j → i = j
theorem zD_of {cA : Nat → ClassId} {ad : Nat → Nat} {lay : List zK} (σ : zS) {sz : Nat} (hI : zI ad lay.length) : va_D (zA ad lay.length sz) (zW cA ad lay σ) := by
  refine ⟨fun i j p q hp hq hpq => ?_, fun k q hq => ?_⟩
  · obtain ⟨h1, h2⟩ := zW_key hp
    obtain ⟨h3, h4⟩ := zW_key hq
    exact hI i j h1 h3 (by rw [← h2, ← h4]; exact hpq)
  · obtain ⟨h1, h2⟩ := zW_key hq
    exact Or.inl ⟨k, h1, h2⟩
theorem zA_sub {ad : Nat → Nat} {n a b : Nat} (h : a ≤ b) : ∀ q, zA ad n b q → zA ad n a q := by
  intro q hq
  rcases hq with hq | hq
  · exact Or.inl hq
  · exact Or.inr (Nat.le_trans h hq)
def zEx (k : Nat) : String := if k = 1 then "java/lang/IndexOutOfBoundsException" else if k = 2 then "java/lang/IllegalArgumentException" else "java/lang/IllegalStateException"
def zDn : List MethodName := [⟨"java/lang/RuntimeException", "<init>", "()V"⟩, ⟨"java/lang/Exception", "<init>", "()V"⟩, ⟨"java/lang/Throwable", "<init>", "()V"⟩]
def zHN (U : State) : Prop := (∀ q ∈ zN, va_Nw (.methodLinkNest q.1 q.2.1 q.2.2.1 q.2.2.2) U) ∧ (∀ k : Nat, va_Nw (.castable (zEx k) (zEx k)) U) ∧ (∀ q ∈ zDn, va_Nw (.declares q) U) ∧ ∀ j k : Nat, zEx j ≠ zEx k → va_Nc (zEx j) (zEx k) U
theorem zHN_warm {s U : State} (hW : s.WarmedH U.vm) (h : zHN s) : zHN U := ⟨fun q hq => va_Nw.warmM hW (h.1 q hq), fun k => va_Nw.warmC hW (h.2.1 k), fun q hq => va_Nw.warmD hW (h.2.2.1 q hq), fun j k hjk => va_Nc.moved hW.alike (h.2.2.2 j k hjk)⟩
theorem zHN_calling {U : State} {g : JFrame} {mk : MethodId} {a : Array Value} (h : zHN U) : zHN (U.calling g mk a) := ⟨fun q hq => va_Nw.same (u := U) (U := U.calling g mk a) rfl rfl (h.1 q hq), fun k => va_Nw.same (u := U) (U := U.calling g mk a) rfl rfl (h.2.1 k), fun q hq => va_Nw.same (u := U) (U := U.calling g mk a) rfl rfl (h.2.2.1 q hq), fun j k hjk => va_Nc.moved (u := U) (U := U.calling g mk a) (Vm.Alike.refl U.vm) (h.2.2.2 j k hjk)⟩
def zBl (cls : String) : List Cond := Cond.castable cls cls :: zDn.map Cond.declares
theorem zBl_of {args : Array Value} {s : State} {cls : String} (h1 : va_Nw (.castable cls cls) s) (h2 : ∀ q ∈ zDn, va_Nw (.declares q) s) : ∀ w ∈ zBl cls, w.before args s = true := by
  intro w hw
  rcases List.mem_cons.mp hw with rfl | hw
  · exact va_Nw.use rfl h1
  · obtain ⟨q, hq, rfl⟩ := List.mem_map.mp hw
    exact va_Nw.use rfl (h2 q hq)
def zHS (A : Nat → Prop) (U : State) (H : Heap) : Prop := vx_Zq Bundle.tN "UNASSIGNED_STACK" Bundle.steD A U H ∧ vx_Zq Bundle.tN "SUPPRESSED_SENTINEL" Bundle.listD A U H
theorem zHS_to {A B : Nat → Prop} {s U : State} {H0 H : Heap} (h : zHS A s H0) (hk : ∀ q : Nat, q < H0.size → ¬ A q → H[q]? = H0[q]?) (hAB : ∀ q, B q → A q) (hvm : s.vm.Alike U.vm) : zHS B U H :=
  ⟨((h.1.kept hk).narrow hAB).moved hvm, ((h.2.kept hk).narrow hAB).moved hvm⟩
abbrev zH : Type := Launch × (Nat → ClassId) × (Nat → Nat → Nat) × (Nat → ClassId)
def zPst (h : zH) (ad : Nat → Nat) (lay : List zK) (σ : zS) (H : Heap) : Prop := va_P (h.2.1, h.2.2.1) vwCl (zW h.2.2.2 ad lay σ) H
def zPre (h : zH) (ad : Nat → Nat) (lay : List zK) (σ : zS) (argv : List Value) (sz : Nat) : Array Value → State → Prop := va_Pc argv (fun U => U.heap.size = sz ∧ zPst h ad lay σ U.heap ∧ va_K (h.2.1, h.2.2.1) vwCl (zT h.2.2.2) U ∧ zHN U ∧ zHS (zA ad lay.length sz) U U.heap)
theorem zPre_blind {h : zH} {ad : Nat → Nat} {lay : List zK} {σ : zS} {argv : List Value} {sz : Nat} : FrameBlind (zPre h ad lay σ argv sz) := fun a U g mk q => by
  obtain ⟨h0, h1, h2, h3, h4, h5⟩ := q
  exact ⟨h0, h1, h2, va_K.moved (u := U) (U := U.calling g mk a) (Vm.Alike.refl U.vm) h3, zHN_calling h4, h5.1.moved (Vm.Alike.refl U.vm), h5.2.moved (Vm.Alike.refl U.vm)⟩
theorem zPre_at {h : zH} {ad : Nat → Nat} {lay : List zK} {σ : zS} {argv : List Value} {s U : State} {H : Heap} {locs : List Loc} (hU : U.heap = H) (hW : s.WarmedH U.vm) (hP : zPst h ad lay σ H) (hK : va_K (h.2.1, h.2.2.1) vwCl (zT h.2.2.2) s) (hN : zHN s) (hZ : zHS (zA ad lay.length s.heap.size) s s.heap) (hS : va_S (zA ad lay.length s.heap.size) s.heap H locs) : zPre h ad lay σ argv H.size argv.toArray U := by
  subst hU
  exact ⟨rfl, rfl, hP, va_K.moved hW.alike hK, zHN_warm hW hN, zHS_to hZ hS.2.1 (zA_sub hS.1) hW.alike⟩
def zQc (h : zH) (ad : Nat → Nat) (lay : List zK) (vd : Bool) (A : Nat → Prop) (r : Int32) (σ : zS) : Array Value → State → Outcome → State → Prop := match vd with
  | true => va_Qv (fun _ : Unit => True) (fun _ t => zPst h ad lay σ t.heap) A
  | false => va_Qi (fun x (_ : Unit) => x = r) (fun _ t => zPst h ad lay σ t.heap) A
def zXC (h : zH) (ad : Nat → Nat) (lay : List zK) (A : Nat → Prop) (k : Nat) (σ : zS) : String → State → State → Prop := vx_X (fun _ : Unit => True) (fun E _ t => E = zEx k ∧ zPst h ad lay σ t.heap) A
def zNo (A : Nat → Prop) : Array Value → State → Outcome → State → Prop := va_Qv (fun _ : Unit => False) (fun _ _ => True) A
def zMR (h : zH) (ad : Nat → Nat) (lay : List zK) (vd : Bool) (y : MethodName) (ws : List Cond) (F L : Nat) (argv : List Value) (σ : zS) (res : Int32 ⊕ Nat) (σ' : zS) : Prop := match res with
  | .inl r => ∀ sz, Met h.1 y ws { frames := F, cells := 0, slots := 0, locals := L } (zPre h ad lay σ argv sz) (zQc h ad lay vd (zA ad lay.length sz) r σ') 0 0 (zA ad lay.length sz)
  | .inr k => ∀ sz, vx_Met h.1 y ws { frames := F, cells := 1, slots := 6, locals := L } (zPre h ad lay σ argv sz) (zNo (zA ad lay.length sz)) (zXC h ad lay (zA ad lay.length sz) k σ') 1 6 (zA ad lay.length sz)
abbrev zG : Type := Program × Env × Room × State × MethodId × Array Value × List Frame × Method × Code × (State → Prop) × Nat × Nat
def zQR (h : zH) (ad : Nat → Nat) (lay : List zK) (below : List Frame) (args : Array Value) (s : State) (vd : Bool) (res : Int32 ⊕ Nat) (σ' : zS) : State → Prop := match res with
  | .inl r => MQ below (zQc h ad lay vd (zA ad lay.length s.heap.size) r σ') args s 0 0 (zA ad lay.length s.heap.size)
  | .inr k => vx_MQ below (zNo (zA ad lay.length s.heap.size)) (zXC h ad lay (zA ad lay.length s.heap.size) k σ') args s 1 6 (zA ad lay.length s.heap.size)
def zQ (h : zH) (ad : Nat → Nat) (lay : List zK) (G : zG) (vd : Bool) (res : Int32 ⊕ Nat) (σ' : zS) (ret : Option FieldType) : Prop := match G with
  | (_, _, R, s, _, args, below, meth, _, Q, cells, slots) => Q = zQR h ad lay below args s vd res σ' ∧ meth.sig.returnType = ret ∧ (∀ k, res = .inr k → 1 ≤ R.cells ∧ 6 ≤ R.slots) ∧ cells = 0 ∧ slots = 0
def zCT (tb : List ExceptionTableEntry) (h : zH) (ad : Nat → Nat) (lay : List zK) (nL : Nat) (G : zG) (cc : ByteArray) (own : String) (Ts : List Cond) (F L : Nat) : Prop := match G with
  | (p, _, R, s, m, args, _, meth, c, _, cells, slots) => (p.tables.exec = Jvm.exec ∧ c.code = cc ∧ c.maxLocals = nL ∧ s.vm.findClass own = some m.cls ∧ (∀ w ∈ Ts, w.before args s = true)) ∧ va_K (h.2.1, h.2.2.1) vwCl (zT h.2.2.2) s ∧ zI ad lay.length ∧ zHN s ∧ zHS (zA ad lay.length s.heap.size) s s.heap ∧ meth.locks = false ∧ c.exceptionTable.toList = tb ∧ R.frames = F ∧ R.locals = L ∧ h.1.stackTraces = false ∧ cells ≤ R.cells ∧ slots ≤ R.slots
abbrev zC (h : zH) (ad : Nat → Nat) (lay : List zK) (nL : Nat) (G : zG) (cc : ByteArray) (own : String) (Ts : List Cond) (F L : Nat) : Prop := zCT [] h ad lay nL G cc own Ts F L
def zV (h : zH) (ad : Nat → Nat) (lay : List zK) (nL : Nat) (G : zG) (σ : zS) (pc : Nat) (lv : List (Nat × Value)) (st : List Value) : Prop := match G with
  | (p, e, R, s, m, args, below, meth, c, Q, cells, slots) => ∀ (H : Heap) (locs : List Loc) (ls : Array Slot), zPst h ad lay σ H → va_S (zA ad lay.length s.heap.size) s.heap H locs → lv_has ls nL lv → W p h.1 e R s m args below meth c H locs cells slots Q (F0 m pc ls st)
variable {tb : List ExceptionTableEntry} {h : zH} {ad : Nat → Nat} {lay : List zK} {nL : Nat} {G : zG} {cc : ByteArray} {own : String} {Ts : List Cond} {F L : Nat} {σ σ1 σ' : zS} {pc : Nat} {lv lv' : List (Nat × Value)} {st rest : List Value}
theorem z_start {vd : Bool} {y : MethodName} {ws ws' : List Cond} {ret : Option FieldType} {argv : List Value} {res : Int32 ⊕ Nat} (hy : plainName y.cls = true) (hw : ws = Cond.code y cc nL ret :: ws') (hown : y.cls = own) (hI : zI ad lay.length) (hst : h.1.stackTraces = false) (hlen : (lg_sl argv).length ≤ nL)
    (body : ∀ G, zC h ad lay nL G cc own ws F L → zQ h ad lay G vd res σ' ret → zV h ad lay nL G σ 0 (lv_args 0 argv) []) : zMR h ad lay vd y ws F L argv σ res σ' := by
  have tab : ∀ {p : Program} {rm : Room} {e : Env} {s : State} {m : MethodId} {args : Array Value} {below : List Frame} {meth : Method} {c : Code} {s₁ : State}, BodyLoose p h.1 y (headSpec ws rm) cc nL ret e s m args below meth c s₁ → c.exceptionTable.toList = [] := by
    intro p rm e s m args below meth c s₁ B
    obtain ⟨meth9, c9, h1, h2, -, -, -, -, h7, -⟩ := Cond.code_spec B.named (atoms_spec (ws := ws) B.pre _ (by rw [hw]; exact List.mem_cons_self))
    cases Option.some.inj (h1.symm.trans B.method)
    cases Option.some.inj (h2.symm.trans (Stand.of_body B).code)
    rw [Array.isEmpty_iff.mp h7]
  cases res with
  | inl r =>
    intro sz
    refine Met.ofW (cc := cc) (maxL := nL) (ret := ret) hy hw ?_
    intro p e s m args below meth c s₁ B hml hv
    obtain ⟨rfl, hsz, hP, hK, hN, hZ⟩ := hv
    subst hsz
    rw [lg_entry_eq]
    exact body (p, e, { frames := F, cells := 0, slots := 0, locals := L }, s, m, argv.toArray, below, meth, c, _, 0, 0) ⟨⟨B.exec, B.bytes, hml, by rw [← hown]; exact findClass_of_methodNamed B.named, atoms_spec (ws := ws) B.pre⟩, hK, hI, hN, hZ, B.notSynchronized, tab B, rfl, rfl, hst, Nat.zero_le _, Nat.zero_le _⟩ ⟨rfl, B.returns, fun k hk => (by cases hk), rfl, rfl⟩ s.heap [] _ hP va_S.rf (lv_entry argv hlen)
  | inr k =>
    intro sz
    refine vx_ofW (cc := cc) (maxL := nL) (ret := ret) hy hw ?_
    intro p e s m args below meth c s₁ B hml htb hv
    obtain ⟨rfl, hsz, hP, hK, hN, hZ⟩ := hv
    subst hsz
    rw [lg_entry_eq]
    exact body (p, e, { frames := F, cells := 1, slots := 6, locals := L }, s, m, argv.toArray, below, meth, c, _, 0, 0) ⟨⟨B.exec, B.bytes, hml, by rw [← hown]; exact findClass_of_methodNamed B.named, atoms_spec (ws := ws) B.pre⟩, hK, hI, hN, hZ, B.notSynchronized, tab B, rfl, rfl, hst, Nat.zero_le _, Nat.zero_le _⟩ ⟨rfl, B.returns, fun k hk => ⟨Nat.le_refl _, Nat.le_refl _⟩, rfl, rfl⟩ s.heap [] _ hP va_S.rf (lv_entry argv hlen)
theorem z_sub (ks : List Nat) (hl : lv_pick lv ks = lv') (k : zV h ad lay nL G σ pc lv' st) : zV h ad lay nL G σ pc lv st := by
  obtain ⟨p, e, R, s, m, args, below, meth, c, Q, cells, slots⟩ := G
  exact fun H locs ls hP hS hl9 => k H locs ls hP hS (lv_sub hl9 ks hl)

theorem z_iconst (C : zCT tb h ad lay nL G cc own Ts F L) {n : Int} {v : Int32} (hdg : decode cc pc = .ok (.iconst n, 1)) (hv : Int32.ofInt n = v)
    (k : zV h ad lay nL G σ (pc + 1) lv (.int v :: st)) : zV h ad lay nL G σ pc lv st := by
  obtain ⟨p, e, R, s, m, args, below, meth, c, Q, cells, slots⟩ := G
  obtain ⟨⟨hx, hb, hml, hown, hts⟩, hK, hI, hN, hZ, hlocks, hnt, hF, hL, hst, hcs, hss⟩ := C
  exact fun H locs ls hP hS hl => lv_iconst hx hb hdg hv (k H locs ls hP hS hl)
theorem z_bipush (C : zCT tb h ad lay nL G cc own Ts F L) {n : Int} {v : Int32} (hdg : decode cc pc = .ok (.bipush n, 2)) (hv : (Int8.ofInt n).toInt32 = v)
    (k : zV h ad lay nL G σ (pc + 2) lv (.int v :: st)) : zV h ad lay nL G σ pc lv st := by
  obtain ⟨p, e, R, s, m, args, below, meth, c, Q, cells, slots⟩ := G
  obtain ⟨⟨hx, hb, hml, hown, hts⟩, hK, hI, hN, hZ, hlocks, hnt, hF, hL, hst, hcs, hss⟩ := C
  exact fun H locs ls hP hS hl => lv_bipush hx hb hdg hv (k H locs ls hP hS hl)
theorem z_sipush (C : zCT tb h ad lay nL G cc own Ts F L) {n : Int} {v : Int32} (hdg : decode cc pc = .ok (.sipush n, 3)) (hv : (Int16.ofInt n).toInt32 = v)
    (k : zV h ad lay nL G σ (pc + 3) lv (.int v :: st)) : zV h ad lay nL G σ pc lv st := by
  obtain ⟨p, e, R, s, m, args, below, meth, c, Q, cells, slots⟩ := G
  obtain ⟨⟨hx, hb, hml, hown, hts⟩, hK, hI, hN, hZ, hlocks, hnt, hF, hL, hst, hcs, hss⟩ := C
  exact fun H locs ls hP hS hl => lv_sipush hx hb hdg hv (k H locs ls hP hS hl)
theorem z_lconst (C : zCT tb h ad lay nL G cc own Ts F L) {n : Fin 2} {v : Int64} (hdg : decode cc pc = .ok (.lconst n, 1)) (hv : Int64.ofNat (n : Nat) = v)
    (k : zV h ad lay nL G σ (pc + 1) lv (.long v :: st)) : zV h ad lay nL G σ pc lv st := by
  obtain ⟨p, e, R, s, m, args, below, meth, c, Q, cells, slots⟩ := G
  obtain ⟨⟨hx, hb, hml, hown, hts⟩, hK, hI, hN, hZ, hlocks, hnt, hF, hL, hst, hcs, hss⟩ := C
  exact fun H locs ls hP hS hl => lv_lconst hx hb hdg hv (k H locs ls hP hS hl)
theorem z_ldc (C : zCT tb h ad lay nL G cc own Ts F L) {i : Nat} {v : Int32} (hc : (Cond.constant own i v) ∈ Ts) (hdg : decode cc pc = .ok (.ldc i, 2))
    (k : zV h ad lay nL G σ (pc + 2) lv (.int v :: st)) : zV h ad lay nL G σ pc lv st := by
  obtain ⟨p, e, R, s, m, args, below, meth, c, Q, cells, slots⟩ := G
  obtain ⟨⟨hx, hb, hml, hown, hts⟩, hK, hI, hN, hZ, hlocks, hnt, hF, hL, hst, hcs, hss⟩ := C
  exact fun H locs ls hP hS hl => lv_ldc hx hb hown (hts _ hc) hdg (k H locs ls hP hS hl)
theorem z_ldcw (C : zCT tb h ad lay nL G cc own Ts F L) {i : Nat} {v : Int32} (hc : (Cond.constant own i v) ∈ Ts) (hdg : decode cc pc = .ok (.ldc_w i, 3))
    (k : zV h ad lay nL G σ (pc + 3) lv (.int v :: st)) : zV h ad lay nL G σ pc lv st := by
  obtain ⟨p, e, R, s, m, args, below, meth, c, Q, cells, slots⟩ := G
  obtain ⟨⟨hx, hb, hml, hown, hts⟩, hK, hI, hN, hZ, hlocks, hnt, hF, hL, hst, hcs, hss⟩ := C
  exact fun H locs ls hP hS hl => lv_ldcw hx hb hown (hts _ hc) hdg (k H locs ls hP hS hl)
theorem z_ldc2 (C : zCT tb h ad lay nL G cc own Ts F L) {i : Nat} {v : Int64} (hc : (Cond.constantLong own i v) ∈ Ts) (hdg : decode cc pc = .ok (.ldc2_w i, 3))
    (k : zV h ad lay nL G σ (pc + 3) lv (.long v :: st)) : zV h ad lay nL G σ pc lv st := by
  obtain ⟨p, e, R, s, m, args, below, meth, c, Q, cells, slots⟩ := G
  obtain ⟨⟨hx, hb, hml, hown, hts⟩, hK, hI, hN, hZ, hlocks, hnt, hF, hL, hst, hcs, hss⟩ := C
  exact fun H locs ls hP hS hl => lv_ldc2 hx hb hown (hts _ hc) hdg (k H locs ls hP hS hl)
theorem z_iload_n (C : zCT tb h ad lay nL G cc own Ts F L) {kk : Fin 4} {i : Nat} {x : Int32} (hdg : decode cc pc = .ok (.iload_n kk, 1)) (hi : (kk : Nat) = i) (j : Nat) (hj : lv[j]? = some (i, .int x))
    (k : zV h ad lay nL G σ (pc + 1) lv (.int x :: st)) : zV h ad lay nL G σ pc lv st := by
  obtain ⟨p, e, R, s, m, args, below, meth, c, Q, cells, slots⟩ := G
  obtain ⟨⟨hx, hb, hml, hown, hts⟩, hK, hI, hN, hZ, hlocks, hnt, hF, hL, hst, hcs, hss⟩ := C
  exact fun H locs ls hP hS hl => lv_iload_n hx hb hdg hi (lv_at hl j hj) (k H locs ls hP hS hl)
theorem z_iload (C : zCT tb h ad lay nL G cc own Ts F L) {i : Nat} {x : Int32} (hdg : decode cc pc = .ok (.iload i, 2)) (j : Nat) (hj : lv[j]? = some (i, .int x))
    (k : zV h ad lay nL G σ (pc + 2) lv (.int x :: st)) : zV h ad lay nL G σ pc lv st := by
  obtain ⟨p, e, R, s, m, args, below, meth, c, Q, cells, slots⟩ := G
  obtain ⟨⟨hx, hb, hml, hown, hts⟩, hK, hI, hN, hZ, hlocks, hnt, hF, hL, hst, hcs, hss⟩ := C
  exact fun H locs ls hP hS hl => lv_iload hx hb hdg (lv_at hl j hj) (k H locs ls hP hS hl)
theorem z_lload_n (C : zCT tb h ad lay nL G cc own Ts F L) {kk : Fin 4} {i : Nat} {x : Int64} (hdg : decode cc pc = .ok (.lload_n kk, 1)) (hi : (kk : Nat) = i) (j : Nat) (hj : lv[j]? = some (i, .long x))
    (k : zV h ad lay nL G σ (pc + 1) lv (.long x :: st)) : zV h ad lay nL G σ pc lv st := by
  obtain ⟨p, e, R, s, m, args, below, meth, c, Q, cells, slots⟩ := G
  obtain ⟨⟨hx, hb, hml, hown, hts⟩, hK, hI, hN, hZ, hlocks, hnt, hF, hL, hst, hcs, hss⟩ := C
  exact fun H locs ls hP hS hl => lv_lload_n hx hb hdg hi (lv_at hl j hj) (k H locs ls hP hS hl)
theorem z_lload (C : zCT tb h ad lay nL G cc own Ts F L) {i : Nat} {x : Int64} (hdg : decode cc pc = .ok (.lload i, 2)) (j : Nat) (hj : lv[j]? = some (i, .long x))
    (k : zV h ad lay nL G σ (pc + 2) lv (.long x :: st)) : zV h ad lay nL G σ pc lv st := by
  obtain ⟨p, e, R, s, m, args, below, meth, c, Q, cells, slots⟩ := G
  obtain ⟨⟨hx, hb, hml, hown, hts⟩, hK, hI, hN, hZ, hlocks, hnt, hF, hL, hst, hcs, hss⟩ := C
  exact fun H locs ls hP hS hl => lv_lload hx hb hdg (lv_at hl j hj) (k H locs ls hP hS hl)
theorem z_aload_n (C : zCT tb h ad lay nL G cc own Ts F L) {kk : Fin 4} {i : Nat} {x : Nat} (hdg : decode cc pc = .ok (.aload_n kk, 1)) (hi : (kk : Nat) = i) (j : Nat) (hj : lv[j]? = some (i, .ref x))
    (k : zV h ad lay nL G σ (pc + 1) lv (.ref x :: st)) : zV h ad lay nL G σ pc lv st := by
  obtain ⟨p, e, R, s, m, args, below, meth, c, Q, cells, slots⟩ := G
  obtain ⟨⟨hx, hb, hml, hown, hts⟩, hK, hI, hN, hZ, hlocks, hnt, hF, hL, hst, hcs, hss⟩ := C
  exact fun H locs ls hP hS hl => lv_aload_n hx hb hdg hi (lv_at hl j hj) (k H locs ls hP hS hl)
theorem z_aload (C : zCT tb h ad lay nL G cc own Ts F L) {i : Nat} {x : Nat} (hdg : decode cc pc = .ok (.aload i, 2)) (j : Nat) (hj : lv[j]? = some (i, .ref x))
    (k : zV h ad lay nL G σ (pc + 2) lv (.ref x :: st)) : zV h ad lay nL G σ pc lv st := by
  obtain ⟨p, e, R, s, m, args, below, meth, c, Q, cells, slots⟩ := G
  obtain ⟨⟨hx, hb, hml, hown, hts⟩, hK, hI, hN, hZ, hlocks, hnt, hF, hL, hst, hcs, hss⟩ := C
  exact fun H locs ls hP hS hl => lv_aload hx hb hdg (lv_at hl j hj) (k H locs ls hP hS hl)
theorem z_istore_n (C : zCT tb h ad lay nL G cc own Ts F L) {kk : Fin 4} {i : Nat} {x y : Int32} (hdg : decode cc pc = .ok (.istore_n kk, 1)) (hi : (kk : Nat) = i) (hn : i < nL) (hy : y = x) (hl9 : (i, Value.int y) :: lv.filter (fun q => !(q.1 == i) && !(q.1 + 1 == i && q.2.category == 2)) = lv')
    (k : zV h ad lay nL G σ (pc + 1) lv' st) : zV h ad lay nL G σ pc lv (.int x :: st) := by
  obtain ⟨p, e, R, s, m, args, below, meth, c, Q, cells, slots⟩ := G
  obtain ⟨⟨hx, hb, hml, hown, hts⟩, hK, hI, hN, hZ, hlocks, hnt, hF, hL, hst, hcs, hss⟩ := C
  subst hy
  exact fun H locs ls hP hS hl => lv_istore_n hx hb hdg hi hl hn hl9 (fun ls hl => k H locs ls hP hS hl)
theorem z_istore (C : zCT tb h ad lay nL G cc own Ts F L) {i : Nat} {x y : Int32} (hdg : decode cc pc = .ok (.istore i, 2)) (hn : i < nL) (hy : y = x) (hl9 : (i, Value.int y) :: lv.filter (fun q => !(q.1 == i) && !(q.1 + 1 == i && q.2.category == 2)) = lv')
    (k : zV h ad lay nL G σ (pc + 2) lv' st) : zV h ad lay nL G σ pc lv (.int x :: st) := by
  obtain ⟨p, e, R, s, m, args, below, meth, c, Q, cells, slots⟩ := G
  obtain ⟨⟨hx, hb, hml, hown, hts⟩, hK, hI, hN, hZ, hlocks, hnt, hF, hL, hst, hcs, hss⟩ := C
  subst hy
  exact fun H locs ls hP hS hl => lv_istore hx hb hdg hl hn hl9 (fun ls hl => k H locs ls hP hS hl)
theorem z_lstore_n (C : zCT tb h ad lay nL G cc own Ts F L) {kk : Fin 4} {i : Nat} {x y : Int64} (hdg : decode cc pc = .ok (.lstore_n kk, 1)) (hi : (kk : Nat) = i) (hn : i + 1 < nL) (hy : y = x) (hl9 : (i, Value.long y) :: lv.filter (fun q => !(q.1 == i) && (!(q.1 == i + 1) && !(q.1 + 1 == i && q.2.category == 2))) = lv')
    (k : zV h ad lay nL G σ (pc + 1) lv' st) : zV h ad lay nL G σ pc lv (.long x :: st) := by
  obtain ⟨p, e, R, s, m, args, below, meth, c, Q, cells, slots⟩ := G
  obtain ⟨⟨hx, hb, hml, hown, hts⟩, hK, hI, hN, hZ, hlocks, hnt, hF, hL, hst, hcs, hss⟩ := C
  subst hy
  exact fun H locs ls hP hS hl => lv_lstore_n hx hb hdg hi hl hn hl9 (fun ls hl => k H locs ls hP hS hl)
theorem z_lstore (C : zCT tb h ad lay nL G cc own Ts F L) {i : Nat} {x y : Int64} (hdg : decode cc pc = .ok (.lstore i, 2)) (hn : i + 1 < nL) (hy : y = x) (hl9 : (i, Value.long y) :: lv.filter (fun q => !(q.1 == i) && (!(q.1 == i + 1) && !(q.1 + 1 == i && q.2.category == 2))) = lv')
    (k : zV h ad lay nL G σ (pc + 2) lv' st) : zV h ad lay nL G σ pc lv (.long x :: st) := by
  obtain ⟨p, e, R, s, m, args, below, meth, c, Q, cells, slots⟩ := G
  obtain ⟨⟨hx, hb, hml, hown, hts⟩, hK, hI, hN, hZ, hlocks, hnt, hF, hL, hst, hcs, hss⟩ := C
  subst hy
  exact fun H locs ls hP hS hl => lv_lstore hx hb hdg hl hn hl9 (fun ls hl => k H locs ls hP hS hl)
theorem z_iinc (C : zCT tb h ad lay nL G cc own Ts F L) {i j : Nat} {n : Int} {x v d : Int32} (hdg : decode cc pc = .ok (.iinc i n, 3)) (hj : lv[j]? = some (i, .int x)) (hd : Int32.ofInt n = d) (hv : v = x + d) (hn : i < nL) (hl9 : (i, Value.int v) :: lv.filter (fun q => !(q.1 == i) && !(q.1 + 1 == i && q.2.category == 2)) = lv')
    (k : zV h ad lay nL G σ (pc + 3) lv' st) : zV h ad lay nL G σ pc lv st := by
  obtain ⟨p, e, R, s, m, args, below, meth, c, Q, cells, slots⟩ := G
  obtain ⟨⟨hx, hb, hml, hown, hts⟩, hK, hI, hN, hZ, hlocks, hnt, hF, hL, hst, hcs, hss⟩ := C
  exact fun H locs ls hP hS hl => lv_iinc hx hb hdg hl hj (by rw [hd, hv]) hn hl9 (fun ls hl => k H locs ls hP hS hl)
theorem z_iadd (C : zCT tb h ad lay nL G cc own Ts F L) {x y : Int32} (hdg : decode cc pc = .ok (.iadd, 1))
    (k : zV h ad lay nL G σ (pc + 1) lv (.int (x + y) :: st)) : zV h ad lay nL G σ pc lv (.int y :: .int x :: st) := by
  obtain ⟨p, e, R, s, m, args, below, meth, c, Q, cells, slots⟩ := G
  obtain ⟨⟨hx, hb, hml, hown, hts⟩, hK, hI, hN, hZ, hlocks, hnt, hF, hL, hst, hcs, hss⟩ := C
  exact fun H locs ls hP hS hl => lv_iadd hx hb hdg (k H locs ls hP hS hl)
theorem z_isub (C : zCT tb h ad lay nL G cc own Ts F L) {x y : Int32} (hdg : decode cc pc = .ok (.isub, 1))
    (k : zV h ad lay nL G σ (pc + 1) lv (.int (x - y) :: st)) : zV h ad lay nL G σ pc lv (.int y :: .int x :: st) := by
  obtain ⟨p, e, R, s, m, args, below, meth, c, Q, cells, slots⟩ := G
  obtain ⟨⟨hx, hb, hml, hown, hts⟩, hK, hI, hN, hZ, hlocks, hnt, hF, hL, hst, hcs, hss⟩ := C
  exact fun H locs ls hP hS hl => lv_isub hx hb hdg (k H locs ls hP hS hl)
theorem z_imul (C : zCT tb h ad lay nL G cc own Ts F L) {x y : Int32} (hdg : decode cc pc = .ok (.imul, 1))
    (k : zV h ad lay nL G σ (pc + 1) lv (.int (x * y) :: st)) : zV h ad lay nL G σ pc lv (.int y :: .int x :: st) := by
  obtain ⟨p, e, R, s, m, args, below, meth, c, Q, cells, slots⟩ := G
  obtain ⟨⟨hx, hb, hml, hown, hts⟩, hK, hI, hN, hZ, hlocks, hnt, hF, hL, hst, hcs, hss⟩ := C
  exact fun H locs ls hP hS hl => lv_imul hx hb hdg (k H locs ls hP hS hl)
theorem z_iand (C : zCT tb h ad lay nL G cc own Ts F L) {x y : Int32} (hdg : decode cc pc = .ok (.iand, 1))
    (k : zV h ad lay nL G σ (pc + 1) lv (.int (x &&& y) :: st)) : zV h ad lay nL G σ pc lv (.int y :: .int x :: st) := by
  obtain ⟨p, e, R, s, m, args, below, meth, c, Q, cells, slots⟩ := G
  obtain ⟨⟨hx, hb, hml, hown, hts⟩, hK, hI, hN, hZ, hlocks, hnt, hF, hL, hst, hcs, hss⟩ := C
  exact fun H locs ls hP hS hl => lv_iand hx hb hdg (k H locs ls hP hS hl)
theorem z_ior (C : zCT tb h ad lay nL G cc own Ts F L) {x y : Int32} (hdg : decode cc pc = .ok (.ior, 1))
    (k : zV h ad lay nL G σ (pc + 1) lv (.int (x ||| y) :: st)) : zV h ad lay nL G σ pc lv (.int y :: .int x :: st) := by
  obtain ⟨p, e, R, s, m, args, below, meth, c, Q, cells, slots⟩ := G
  obtain ⟨⟨hx, hb, hml, hown, hts⟩, hK, hI, hN, hZ, hlocks, hnt, hF, hL, hst, hcs, hss⟩ := C
  exact fun H locs ls hP hS hl => lv_ior hx hb hdg (k H locs ls hP hS hl)
theorem z_ixor (C : zCT tb h ad lay nL G cc own Ts F L) {x y : Int32} (hdg : decode cc pc = .ok (.ixor, 1))
    (k : zV h ad lay nL G σ (pc + 1) lv (.int (x ^^^ y) :: st)) : zV h ad lay nL G σ pc lv (.int y :: .int x :: st) := by
  obtain ⟨p, e, R, s, m, args, below, meth, c, Q, cells, slots⟩ := G
  obtain ⟨⟨hx, hb, hml, hown, hts⟩, hK, hI, hN, hZ, hlocks, hnt, hF, hL, hst, hcs, hss⟩ := C
  exact fun H locs ls hP hS hl => lv_ixor hx hb hdg (k H locs ls hP hS hl)
theorem z_ishl (C : zCT tb h ad lay nL G cc own Ts F L) {x y : Int32} (hdg : decode cc pc = .ok (.ishl, 1))
    (k : zV h ad lay nL G σ (pc + 1) lv (.int (x <<< (y &&& 31)) :: st)) : zV h ad lay nL G σ pc lv (.int y :: .int x :: st) := by
  obtain ⟨p, e, R, s, m, args, below, meth, c, Q, cells, slots⟩ := G
  obtain ⟨⟨hx, hb, hml, hown, hts⟩, hK, hI, hN, hZ, hlocks, hnt, hF, hL, hst, hcs, hss⟩ := C
  exact fun H locs ls hP hS hl => lv_ishl hx hb hdg (k H locs ls hP hS hl)
theorem z_ishr (C : zCT tb h ad lay nL G cc own Ts F L) {x y : Int32} (hdg : decode cc pc = .ok (.ishr, 1))
    (k : zV h ad lay nL G σ (pc + 1) lv (.int (x >>> (y &&& 31)) :: st)) : zV h ad lay nL G σ pc lv (.int y :: .int x :: st) := by
  obtain ⟨p, e, R, s, m, args, below, meth, c, Q, cells, slots⟩ := G
  obtain ⟨⟨hx, hb, hml, hown, hts⟩, hK, hI, hN, hZ, hlocks, hnt, hF, hL, hst, hcs, hss⟩ := C
  exact fun H locs ls hP hS hl => lv_ishr hx hb hdg (k H locs ls hP hS hl)
theorem z_idiv (C : zCT tb h ad lay nL G cc own Ts F L) {x y : Int32} (hdg : decode cc pc = .ok (.idiv, 1)) (hne : ¬ y = 0)
    (k : zV h ad lay nL G σ (pc + 1) lv (.int (x / y) :: st)) : zV h ad lay nL G σ pc lv (.int y :: .int x :: st) := by
  obtain ⟨p, e, R, s, m, args, below, meth, c, Q, cells, slots⟩ := G
  obtain ⟨⟨hx, hb, hml, hown, hts⟩, hK, hI, hN, hZ, hlocks, hnt, hF, hL, hst, hcs, hss⟩ := C
  exact fun H locs ls hP hS hl => lv_idiv hx hb hdg hne (k H locs ls hP hS hl)
theorem z_irem (C : zCT tb h ad lay nL G cc own Ts F L) {x y : Int32} (hdg : decode cc pc = .ok (.irem, 1)) (hne : ¬ y = 0)
    (k : zV h ad lay nL G σ (pc + 1) lv (.int (x - x / y * y) :: st)) : zV h ad lay nL G σ pc lv (.int y :: .int x :: st) := by
  obtain ⟨p, e, R, s, m, args, below, meth, c, Q, cells, slots⟩ := G
  obtain ⟨⟨hx, hb, hml, hown, hts⟩, hK, hI, hN, hZ, hlocks, hnt, hF, hL, hst, hcs, hss⟩ := C
  exact fun H locs ls hP hS hl => lv_irem hx hb hdg hne (k H locs ls hP hS hl)
theorem z_iushr (C : zCT tb h ad lay nL G cc own Ts F L) {x y : Int32} (hdg : decode cc pc = .ok (.iushr, 1))
    (k : zV h ad lay nL G σ (pc + 1) lv (.int ((x.toUInt32 >>> (y.toUInt32 &&& Int32.toUInt32 31)).toInt32) :: st)) : zV h ad lay nL G σ pc lv (.int y :: .int x :: st) := by
  obtain ⟨p, e, R, s, m, args, below, meth, c, Q, cells, slots⟩ := G
  obtain ⟨⟨hx, hb, hml, hown, hts⟩, hK, hI, hN, hZ, hlocks, hnt, hF, hL, hst, hcs, hss⟩ := C
  exact fun H locs ls hP hS hl => lv_iushr hx hb hdg rfl (k H locs ls hP hS hl)
theorem z_lmul (C : zCT tb h ad lay nL G cc own Ts F L) {x y : Int64} (hdg : decode cc pc = .ok (.lmul, 1))
    (k : zV h ad lay nL G σ (pc + 1) lv (.long (x * y) :: st)) : zV h ad lay nL G σ pc lv (.long y :: .long x :: st) := by
  obtain ⟨p, e, R, s, m, args, below, meth, c, Q, cells, slots⟩ := G
  obtain ⟨⟨hx, hb, hml, hown, hts⟩, hK, hI, hN, hZ, hlocks, hnt, hF, hL, hst, hcs, hss⟩ := C
  exact fun H locs ls hP hS hl => lv_lmul hx hb hdg (k H locs ls hP hS hl)
theorem z_ladd (C : zCT tb h ad lay nL G cc own Ts F L) {x y : Int64} (hdg : decode cc pc = .ok (.ladd, 1))
    (k : zV h ad lay nL G σ (pc + 1) lv (.long (x + y) :: st)) : zV h ad lay nL G σ pc lv (.long y :: .long x :: st) := by
  obtain ⟨p, e, R, s, m, args, below, meth, c, Q, cells, slots⟩ := G
  obtain ⟨⟨hx, hb, hml, hown, hts⟩, hK, hI, hN, hZ, hlocks, hnt, hF, hL, hst, hcs, hss⟩ := C
  exact fun H locs ls hP hS hl => lv_ladd hx hb hdg (k H locs ls hP hS hl)
theorem z_lsub (C : zCT tb h ad lay nL G cc own Ts F L) {x y : Int64} (hdg : decode cc pc = .ok (.lsub, 1))
    (k : zV h ad lay nL G σ (pc + 1) lv (.long (x - y) :: st)) : zV h ad lay nL G σ pc lv (.long y :: .long x :: st) := by
  obtain ⟨p, e, R, s, m, args, below, meth, c, Q, cells, slots⟩ := G
  obtain ⟨⟨hx, hb, hml, hown, hts⟩, hK, hI, hN, hZ, hlocks, hnt, hF, hL, hst, hcs, hss⟩ := C
  exact fun H locs ls hP hS hl => lv_lsub hx hb hdg (k H locs ls hP hS hl)
theorem z_ldiv (C : zCT tb h ad lay nL G cc own Ts F L) {x y : Int64} (hdg : decode cc pc = .ok (.ldiv, 1)) (hne : ¬ y = 0)
    (k : zV h ad lay nL G σ (pc + 1) lv (.long (x / y) :: st)) : zV h ad lay nL G σ pc lv (.long y :: .long x :: st) := by
  obtain ⟨p, e, R, s, m, args, below, meth, c, Q, cells, slots⟩ := G
  obtain ⟨⟨hx, hb, hml, hown, hts⟩, hK, hI, hN, hZ, hlocks, hnt, hF, hL, hst, hcs, hss⟩ := C
  exact fun H locs ls hP hS hl => lv_ldiv hx hb hdg hne (k H locs ls hP hS hl)
theorem z_i2l (C : zCT tb h ad lay nL G cc own Ts F L) {x : Int32} (hdg : decode cc pc = .ok (.i2l, 1))
    (k : zV h ad lay nL G σ (pc + 1) lv (.long x.toInt64 :: st)) : zV h ad lay nL G σ pc lv (.int x :: st) := by
  obtain ⟨p, e, R, s, m, args, below, meth, c, Q, cells, slots⟩ := G
  obtain ⟨⟨hx, hb, hml, hown, hts⟩, hK, hI, hN, hZ, hlocks, hnt, hF, hL, hst, hcs, hss⟩ := C
  exact fun H locs ls hP hS hl => lv_i2l hx hb hdg rfl (k H locs ls hP hS hl)
theorem z_l2i (C : zCT tb h ad lay nL G cc own Ts F L) {x : Int64} (hdg : decode cc pc = .ok (.l2i, 1))
    (k : zV h ad lay nL G σ (pc + 1) lv (.int x.toInt32 :: st)) : zV h ad lay nL G σ pc lv (.long x :: st) := by
  obtain ⟨p, e, R, s, m, args, below, meth, c, Q, cells, slots⟩ := G
  obtain ⟨⟨hx, hb, hml, hown, hts⟩, hK, hI, hN, hZ, hlocks, hnt, hF, hL, hst, hcs, hss⟩ := C
  exact fun H locs ls hP hS hl => lv_l2i hx hb hdg rfl (k H locs ls hP hS hl)
theorem z_dup (C : zCT tb h ad lay nL G cc own Ts F L) {v : Value} (hdg : decode cc pc = .ok (.dup, 1)) (hv : v.category = 1)
    (k : zV h ad lay nL G σ (pc + 1) lv (v :: v :: st)) : zV h ad lay nL G σ pc lv (v :: st) := by
  obtain ⟨p, e, R, s, m, args, below, meth, c, Q, cells, slots⟩ := G
  obtain ⟨⟨hx, hb, hml, hown, hts⟩, hK, hI, hN, hZ, hlocks, hnt, hF, hL, hst, hcs, hss⟩ := C
  exact fun H locs ls hP hS hl => lv_dup hx hb hdg hv (k H locs ls hP hS hl)
theorem z_pop (C : zCT tb h ad lay nL G cc own Ts F L) {v : Value} (hdg : decode cc pc = .ok (.pop, 1)) (hv : v.category = 1)
    (k : zV h ad lay nL G σ (pc + 1) lv st) : zV h ad lay nL G σ pc lv (v :: st) := by
  obtain ⟨p, e, R, s, m, args, below, meth, c, Q, cells, slots⟩ := G
  obtain ⟨⟨hx, hb, hml, hown, hts⟩, hK, hI, hN, hZ, hlocks, hnt, hF, hL, hst, hcs, hss⟩ := C
  exact fun H locs ls hP hS hl => lv_pop hx hb hdg hv (k H locs ls hP hS hl)
theorem z_dup2 (C : zCT tb h ad lay nL G cc own Ts F L) {v u : Value} (hdg : decode cc pc = .ok (.dup2, 1)) (hv : v.category = 1) (hu : u.category = 1)
    (k : zV h ad lay nL G σ (pc + 1) lv (v :: u :: v :: u :: st)) : zV h ad lay nL G σ pc lv (v :: u :: st) := by
  obtain ⟨p, e, R, s, m, args, below, meth, c, Q, cells, slots⟩ := G
  obtain ⟨⟨hx, hb, hml, hown, hts⟩, hK, hI, hN, hZ, hlocks, hnt, hF, hL, hst, hcs, hss⟩ := C
  exact fun H locs ls hP hS hl => lv_dup2_11 hx hb hdg hv hu (k H locs ls hP hS hl)
theorem z_if_eq (C : zCT tb h ad lay nL G cc own Ts F L) {x : Int32} {off : Int} {tgt : Nat} (hdg : decode cc pc = .ok (.ifCond .eq off, 3)) (ht : (pc : Int) + off = (tgt : Int))
    (kt : x = 0 → zV h ad lay nL G σ tgt lv st) (kf : ¬ x = 0 → zV h ad lay nL G σ (pc + 3) lv st) : zV h ad lay nL G σ pc lv (.int x :: st) := by
  obtain ⟨p, e, R, s, m, args, below, meth, c, Q, cells, slots⟩ := G
  obtain ⟨⟨hx, hb, hml, hown, hts⟩, hK, hI, hN, hZ, hlocks, hnt, hF, hL, hst, hcs, hss⟩ := C
  exact fun H locs ls hP hS hl => lv_if_eq hx hb hdg ht (fun q => kt q H locs ls hP hS hl) (fun q => kf q H locs ls hP hS hl)
theorem z_icmp_eq (C : zCT tb h ad lay nL G cc own Ts F L) {x y : Int32} {off : Int} {tgt : Nat} (hdg : decode cc pc = .ok (.if_icmp .eq off, 3)) (ht : (pc : Int) + off = (tgt : Int))
    (kt : x = y → zV h ad lay nL G σ tgt lv st) (kf : ¬ x = y → zV h ad lay nL G σ (pc + 3) lv st) : zV h ad lay nL G σ pc lv (.int y :: .int x :: st) := by
  obtain ⟨p, e, R, s, m, args, below, meth, c, Q, cells, slots⟩ := G
  obtain ⟨⟨hx, hb, hml, hown, hts⟩, hK, hI, hN, hZ, hlocks, hnt, hF, hL, hst, hcs, hss⟩ := C
  exact fun H locs ls hP hS hl => lv_icmp_eq hx hb hdg ht (fun q => kt q H locs ls hP hS hl) (fun q => kf q H locs ls hP hS hl)
theorem z_if_ne (C : zCT tb h ad lay nL G cc own Ts F L) {x : Int32} {off : Int} {tgt : Nat} (hdg : decode cc pc = .ok (.ifCond .ne off, 3)) (ht : (pc : Int) + off = (tgt : Int))
    (kt : ¬ x = 0 → zV h ad lay nL G σ tgt lv st) (kf : x = 0 → zV h ad lay nL G σ (pc + 3) lv st) : zV h ad lay nL G σ pc lv (.int x :: st) := by
  obtain ⟨p, e, R, s, m, args, below, meth, c, Q, cells, slots⟩ := G
  obtain ⟨⟨hx, hb, hml, hown, hts⟩, hK, hI, hN, hZ, hlocks, hnt, hF, hL, hst, hcs, hss⟩ := C
  exact fun H locs ls hP hS hl => lv_if_ne hx hb hdg ht (fun q => kt q H locs ls hP hS hl) (fun q => kf q H locs ls hP hS hl)
theorem z_icmp_ne (C : zCT tb h ad lay nL G cc own Ts F L) {x y : Int32} {off : Int} {tgt : Nat} (hdg : decode cc pc = .ok (.if_icmp .ne off, 3)) (ht : (pc : Int) + off = (tgt : Int))
    (kt : ¬ x = y → zV h ad lay nL G σ tgt lv st) (kf : x = y → zV h ad lay nL G σ (pc + 3) lv st) : zV h ad lay nL G σ pc lv (.int y :: .int x :: st) := by
  obtain ⟨p, e, R, s, m, args, below, meth, c, Q, cells, slots⟩ := G
  obtain ⟨⟨hx, hb, hml, hown, hts⟩, hK, hI, hN, hZ, hlocks, hnt, hF, hL, hst, hcs, hss⟩ := C
  exact fun H locs ls hP hS hl => lv_icmp_ne hx hb hdg ht (fun q => kt q H locs ls hP hS hl) (fun q => kf q H locs ls hP hS hl)
theorem z_if_lt (C : zCT tb h ad lay nL G cc own Ts F L) {x : Int32} {off : Int} {tgt : Nat} (hdg : decode cc pc = .ok (.ifCond .lt off, 3)) (ht : (pc : Int) + off = (tgt : Int))
    (kt : x < 0 → zV h ad lay nL G σ tgt lv st) (kf : ¬ x < 0 → zV h ad lay nL G σ (pc + 3) lv st) : zV h ad lay nL G σ pc lv (.int x :: st) := by
  obtain ⟨p, e, R, s, m, args, below, meth, c, Q, cells, slots⟩ := G
  obtain ⟨⟨hx, hb, hml, hown, hts⟩, hK, hI, hN, hZ, hlocks, hnt, hF, hL, hst, hcs, hss⟩ := C
  exact fun H locs ls hP hS hl => lv_if_lt hx hb hdg ht (fun q => kt q H locs ls hP hS hl) (fun q => kf q H locs ls hP hS hl)
theorem z_icmp_lt (C : zCT tb h ad lay nL G cc own Ts F L) {x y : Int32} {off : Int} {tgt : Nat} (hdg : decode cc pc = .ok (.if_icmp .lt off, 3)) (ht : (pc : Int) + off = (tgt : Int))
    (kt : x < y → zV h ad lay nL G σ tgt lv st) (kf : ¬ x < y → zV h ad lay nL G σ (pc + 3) lv st) : zV h ad lay nL G σ pc lv (.int y :: .int x :: st) := by
  obtain ⟨p, e, R, s, m, args, below, meth, c, Q, cells, slots⟩ := G
  obtain ⟨⟨hx, hb, hml, hown, hts⟩, hK, hI, hN, hZ, hlocks, hnt, hF, hL, hst, hcs, hss⟩ := C
  exact fun H locs ls hP hS hl => lv_icmp_lt hx hb hdg ht (fun q => kt q H locs ls hP hS hl) (fun q => kf q H locs ls hP hS hl)
theorem z_if_ge (C : zCT tb h ad lay nL G cc own Ts F L) {x : Int32} {off : Int} {tgt : Nat} (hdg : decode cc pc = .ok (.ifCond .ge off, 3)) (ht : (pc : Int) + off = (tgt : Int))
    (kt : 0 ≤ x → zV h ad lay nL G σ tgt lv st) (kf : ¬ 0 ≤ x → zV h ad lay nL G σ (pc + 3) lv st) : zV h ad lay nL G σ pc lv (.int x :: st) := by
  obtain ⟨p, e, R, s, m, args, below, meth, c, Q, cells, slots⟩ := G
  obtain ⟨⟨hx, hb, hml, hown, hts⟩, hK, hI, hN, hZ, hlocks, hnt, hF, hL, hst, hcs, hss⟩ := C
  exact fun H locs ls hP hS hl => lv_if_ge hx hb hdg ht (fun q => kt q H locs ls hP hS hl) (fun q => kf q H locs ls hP hS hl)
theorem z_icmp_ge (C : zCT tb h ad lay nL G cc own Ts F L) {x y : Int32} {off : Int} {tgt : Nat} (hdg : decode cc pc = .ok (.if_icmp .ge off, 3)) (ht : (pc : Int) + off = (tgt : Int))
    (kt : y ≤ x → zV h ad lay nL G σ tgt lv st) (kf : ¬ y ≤ x → zV h ad lay nL G σ (pc + 3) lv st) : zV h ad lay nL G σ pc lv (.int y :: .int x :: st) := by
  obtain ⟨p, e, R, s, m, args, below, meth, c, Q, cells, slots⟩ := G
  obtain ⟨⟨hx, hb, hml, hown, hts⟩, hK, hI, hN, hZ, hlocks, hnt, hF, hL, hst, hcs, hss⟩ := C
  exact fun H locs ls hP hS hl => lv_icmp_ge hx hb hdg ht (fun q => kt q H locs ls hP hS hl) (fun q => kf q H locs ls hP hS hl)
theorem z_if_gt (C : zCT tb h ad lay nL G cc own Ts F L) {x : Int32} {off : Int} {tgt : Nat} (hdg : decode cc pc = .ok (.ifCond .gt off, 3)) (ht : (pc : Int) + off = (tgt : Int))
    (kt : 0 < x → zV h ad lay nL G σ tgt lv st) (kf : ¬ 0 < x → zV h ad lay nL G σ (pc + 3) lv st) : zV h ad lay nL G σ pc lv (.int x :: st) := by
  obtain ⟨p, e, R, s, m, args, below, meth, c, Q, cells, slots⟩ := G
  obtain ⟨⟨hx, hb, hml, hown, hts⟩, hK, hI, hN, hZ, hlocks, hnt, hF, hL, hst, hcs, hss⟩ := C
  exact fun H locs ls hP hS hl => lv_if_gt hx hb hdg ht (fun q => kt q H locs ls hP hS hl) (fun q => kf q H locs ls hP hS hl)
theorem z_icmp_gt (C : zCT tb h ad lay nL G cc own Ts F L) {x y : Int32} {off : Int} {tgt : Nat} (hdg : decode cc pc = .ok (.if_icmp .gt off, 3)) (ht : (pc : Int) + off = (tgt : Int))
    (kt : y < x → zV h ad lay nL G σ tgt lv st) (kf : ¬ y < x → zV h ad lay nL G σ (pc + 3) lv st) : zV h ad lay nL G σ pc lv (.int y :: .int x :: st) := by
  obtain ⟨p, e, R, s, m, args, below, meth, c, Q, cells, slots⟩ := G
  obtain ⟨⟨hx, hb, hml, hown, hts⟩, hK, hI, hN, hZ, hlocks, hnt, hF, hL, hst, hcs, hss⟩ := C
  exact fun H locs ls hP hS hl => lv_icmp_gt hx hb hdg ht (fun q => kt q H locs ls hP hS hl) (fun q => kf q H locs ls hP hS hl)
theorem z_if_le (C : zCT tb h ad lay nL G cc own Ts F L) {x : Int32} {off : Int} {tgt : Nat} (hdg : decode cc pc = .ok (.ifCond .le off, 3)) (ht : (pc : Int) + off = (tgt : Int))
    (kt : x ≤ 0 → zV h ad lay nL G σ tgt lv st) (kf : ¬ x ≤ 0 → zV h ad lay nL G σ (pc + 3) lv st) : zV h ad lay nL G σ pc lv (.int x :: st) := by
  obtain ⟨p, e, R, s, m, args, below, meth, c, Q, cells, slots⟩ := G
  obtain ⟨⟨hx, hb, hml, hown, hts⟩, hK, hI, hN, hZ, hlocks, hnt, hF, hL, hst, hcs, hss⟩ := C
  exact fun H locs ls hP hS hl => lv_if_le hx hb hdg ht (fun q => kt q H locs ls hP hS hl) (fun q => kf q H locs ls hP hS hl)
theorem z_icmp_le (C : zCT tb h ad lay nL G cc own Ts F L) {x y : Int32} {off : Int} {tgt : Nat} (hdg : decode cc pc = .ok (.if_icmp .le off, 3)) (ht : (pc : Int) + off = (tgt : Int))
    (kt : x ≤ y → zV h ad lay nL G σ tgt lv st) (kf : ¬ x ≤ y → zV h ad lay nL G σ (pc + 3) lv st) : zV h ad lay nL G σ pc lv (.int y :: .int x :: st) := by
  obtain ⟨p, e, R, s, m, args, below, meth, c, Q, cells, slots⟩ := G
  obtain ⟨⟨hx, hb, hml, hown, hts⟩, hK, hI, hN, hZ, hlocks, hnt, hF, hL, hst, hcs, hss⟩ := C
  exact fun H locs ls hP hS hl => lv_icmp_le hx hb hdg ht (fun q => kt q H locs ls hP hS hl) (fun q => kf q H locs ls hP hS hl)
theorem z_goto (C : zCT tb h ad lay nL G cc own Ts F L) {off : Int} {tgt : Nat} (hdg : decode cc pc = .ok (.goto off, 3)) (ht : (pc : Int) + off = (tgt : Int))
    (k : zV h ad lay nL G σ tgt lv st) : zV h ad lay nL G σ pc lv st := by
  obtain ⟨p, e, R, s, m, args, below, meth, c, Q, cells, slots⟩ := G
  obtain ⟨⟨hx, hb, hml, hown, hts⟩, hK, hI, hN, hZ, hlocks, hnt, hF, hL, hst, hcs, hss⟩ := C
  exact fun H locs ls hP hS hl => lv_goto hx hb hdg ht (k H locs ls hP hS hl)
theorem z_tableIn (C : zCT tb h ad lay nL G cc own Ts F L) {dflt lo hi : Int} {offs : Array Int} {len : Nat} {x : Int32} {off : Int} {tgt : Nat} (hdg : decode cc pc = .ok (.tableswitch dflt lo hi offs, len)) (h1 : ¬ x.toInt < lo) (h2 : ¬ hi < x.toInt) (ho : offs[(x.toInt - lo).toNat]? = some off) (ht : (pc : Int) + off = (tgt : Int))
    (k : zV h ad lay nL G σ tgt lv st) : zV h ad lay nL G σ pc lv (.int x :: st) := by
  obtain ⟨p, e, R, s, m, args, below, meth, c, Q, cells, slots⟩ := G
  obtain ⟨⟨hx, hb, hml, hown, hts⟩, hK, hI, hN, hZ, hlocks, hnt, hF, hL, hst, hcs, hss⟩ := C
  exact fun H locs ls hP hS hl => lv_tableIn hx hb hdg h1 h2 ho ht (k H locs ls hP hS hl)
theorem z_tableOut (C : zCT tb h ad lay nL G cc own Ts F L) {dflt lo hi : Int} {offs : Array Int} {len : Nat} {x : Int32} {tgt : Nat} (hdg : decode cc pc = .ok (.tableswitch dflt lo hi offs, len)) (h9 : x.toInt < lo ∨ hi < x.toInt) (ht : (pc : Int) + dflt = (tgt : Int))
    (k : zV h ad lay nL G σ tgt lv st) : zV h ad lay nL G σ pc lv (.int x :: st) := by
  obtain ⟨p, e, R, s, m, args, below, meth, c, Q, cells, slots⟩ := G
  obtain ⟨⟨hx, hb, hml, hown, hts⟩, hK, hI, hN, hZ, hlocks, hnt, hF, hL, hst, hcs, hss⟩ := C
  exact fun H locs ls hP hS hl => lv_tableOut hx hb hdg h9 ht (k H locs ls hP hS hl)
theorem z_ne {x v : Int32} {n : Int} (h : ¬ x = v) (hv : v.toInt = n) : x.toInt ≠ n := fun q => h (Int32.toInt_inj.mp (q.trans hv.symm))
theorem zE_get {cA : Nat → ClassId} {f : Nat → Int32} {fs : List Nat} {j : Nat} {o : Nat} (h : fs[j]? = some o) : (fs.mapIdx (zF ad f))[j]? = some (zF ad f j o) := by simp [List.getElem?_mapIdx, h]
/-- a field that holds a number -/
theorem z_get (C : zCT tb h ad lay nL G cc own Ts F L) {k ci : Nat} {fs : List Nat} {Cn : String} {T : u_T} {N i : Nat} (hk : lay[k]? = some (.inr (ci, fs))) (hc : vwCl[ci]? = some (Cn, T, N)) (hin : ∀ w ∈ u_ws Cn T N, w ∈ Ts) (j : Nat) (hj : j < N) (hf : fs[j]? = some 0) (hlink : Cond.fieldLink own i Cn (T j).2.1 (T j).2.2.1 ∈ Ts) (hcl : (T j).1 = Cn) (hdg : decode cc pc = .ok (.getfield i, 3))
    (kk : zV h ad lay nL G σ (pc + 3) lv (.int (σ k j) :: st)) : zV h ad lay nL G σ pc lv (.ref (ad k) :: st) := by
  obtain ⟨p, e, R, s, m, args, below, meth, c, Q, cells, slots⟩ := G
  obtain ⟨⟨hx, hb, hml, hown, hts⟩, hK, hI, hN, hZ, hlocks, hnt, hF, hL, hst, hcs, hss⟩ := C
  exact fun H locs ls hP hS hl => va_get (D := (h.2.1, h.2.2.1)) (ref := Cn) hx hb hts hin hown hK hP k (zW_at hk) hc j hj (hts _ hlink) (fun x hx => by rw [hcl] at hx; exact hx) (zE_get (cA := h.2.2.2) hf) hdg (kk H locs ls hP hS hl)
/-- a field that holds a reference, always the same -/
theorem z_getr (C : zCT tb h ad lay nL G cc own Ts F L) {k ci r : Nat} {fs : List Nat} {Cn : String} {T : u_T} {N i : Nat} (hk : lay[k]? = some (.inr (ci, fs))) (hc : vwCl[ci]? = some (Cn, T, N)) (hin : ∀ w ∈ u_ws Cn T N, w ∈ Ts) (j : Nat) (hj : j < N) (hf : fs[j]? = some (r + 2)) (hlink : Cond.fieldLink own i Cn (T j).2.1 (T j).2.2.1 ∈ Ts) (hcl : (T j).1 = Cn) (hdg : decode cc pc = .ok (.getfield i, 3))
    (kk : zV h ad lay nL G σ (pc + 3) lv (.ref (ad r) :: st)) : zV h ad lay nL G σ pc lv (.ref (ad k) :: st) := by
  obtain ⟨p, e, R, s, m, args, below, meth, c, Q, cells, slots⟩ := G
  obtain ⟨⟨hx, hb, hml, hown, hts⟩, hK, hI, hN, hZ, hlocks, hnt, hF, hL, hst, hcs, hss⟩ := C
  exact fun H locs ls hP hS hl => va_get (D := (h.2.1, h.2.2.1)) (ref := Cn) hx hb hts hin hown hK hP k (zW_at hk) hc j hj (hts _ hlink) (fun x hx => by rw [hcl] at hx; exact hx) (zE_get (cA := h.2.2.2) hf) hdg (kk H locs ls hP hS hl)
theorem z_put (C : zCT tb h ad lay nL G cc own Ts F L) {k ci : Nat} {fs : List Nat} {Cn : String} {T : u_T} {N i : Nat} {ty0 : Nat → FieldType} (hk : lay[k]? = some (.inr (ci, fs))) (hc : vwCl[ci]? = some (Cn, T, N)) (hin : ∀ w ∈ u_ws Cn T N, w ∈ Ts) (hty : ∀ k, k < N → parseFieldDescriptor (T k).2.2.1 = some (ty0 k)) (hnm : ∀ a, a < N → ∀ b, b < N → a ≠ b → (T a).2.1 ≠ (T b).2.1) (j : Nat) (hj : j < N) (hf : fs[j]? = some 0) (hlink : Cond.fieldLink own i Cn (T j).2.1 (T j).2.2.1 ∈ Ts) (hcl : (T j).1 = Cn) (hfin : (T j).2.2.2 = false) (hd : (T j).2.2.1 = "I") {v : Int32} (he : σ1 = zU σ k j v) (hdg : decode cc pc = .ok (.putfield i, 3))
    (kk : zV h ad lay nL G σ1 (pc + 3) lv st) : zV h ad lay nL G σ pc lv (.int v :: .ref (ad k) :: st) := by
  obtain ⟨p, e, R, s, m, args, below, meth, c, Q, cells, slots⟩ := G
  obtain ⟨⟨hx, hb, hml, hown, hts⟩, hK, hI, hN, hZ, hlocks, hnt, hF, hL, hst, hcs, hss⟩ := C
  have hjl : j < fs.length := (List.getElem?_eq_some_iff.mp hf).1
  exact fun H locs ls hP hS hl => va_put (D := (h.2.1, h.2.2.1)) (ref := Cn) (ty := .int) hx hb hts hin ty0 hty hnm hown hK hP (zD_of σ hI) hS k (zW_at hk) hc j hj (hts _ hlink) (fun x hx => by rw [hcl] at hx; exact hx) hfin (by rw [hd]; decide +kernel) rfl rfl (by simpa using hjl) hdg (fun H1 locs1 hP1 _ hS1 => kk H1 locs1 ls (by
    rw [zF_set hf, zW_set (σ' := zU σ k j v) hk (by rw [zU_s]; rfl) zU_o, ← he] at hP1; exact hP1) hS1 hl)
theorem z_iald (C : zCT tb h ad lay nL G cc own Ts F L) {k n : Nat} {i v : Int32} (hk : lay[k]? = some (.inl (0, n))) (hin : vp_in i n) (hv : v = σ k i.toNatClampNeg) (hdg : decode cc pc = .ok (.iaload, 1))
    (kk : zV h ad lay nL G σ (pc + 1) lv (.int v :: st)) : zV h ad lay nL G σ pc lv (.int i :: .ref (ad k) :: st) := by
  obtain ⟨p, e, R, s, m, args, below, meth, c, Q, cells, slots⟩ := G
  obtain ⟨⟨hx, hb, hml, hown, hts⟩, hK, hI, hN, hZ, hlocks, hnt, hF, hL, hst, hcs, hss⟩ := C
  subst hv
  exact fun H locs ls hP hS hl => va_iald (D := (h.2.1, h.2.2.1)) hx hb hK hP k 0 (zW_at hk) rfl hin hdg (kk H locs ls hP hS hl)
theorem z_zald (C : zCT tb h ad lay nL G cc own Ts F L) {k n : Nat} {i v : Int32} (hk : lay[k]? = some (.inl (1, n))) (hin : vp_in i n) (hv : v = σ k i.toNatClampNeg) (hdg : decode cc pc = .ok (.baload, 1))
    (kk : zV h ad lay nL G σ (pc + 1) lv (.int v :: st)) : zV h ad lay nL G σ pc lv (.int i :: .ref (ad k) :: st) := by
  obtain ⟨p, e, R, s, m, args, below, meth, c, Q, cells, slots⟩ := G
  obtain ⟨⟨hx, hb, hml, hown, hts⟩, hK, hI, hN, hZ, hlocks, hnt, hF, hL, hst, hcs, hss⟩ := C
  subst hv
  exact fun H locs ls hP hS hl => va_zald (D := (h.2.1, h.2.2.1)) hx hb hK hP k 1 (zW_at hk) rfl hin hdg (kk H locs ls hP hS hl)
theorem z_iast (C : zCT tb h ad lay nL G cc own Ts F L) {k n : Nat} {i x : Int32} (hk : lay[k]? = some (.inl (0, n))) (hin : vp_in i n) (he : σ1 = zU σ k i.toNatClampNeg x) (hdg : decode cc pc = .ok (.iastore, 1))
    (kk : zV h ad lay nL G σ1 (pc + 1) lv st) : zV h ad lay nL G σ pc lv (.int x :: .int i :: .ref (ad k) :: st) := by
  obtain ⟨p, e, R, s, m, args, below, meth, c, Q, cells, slots⟩ := G
  obtain ⟨⟨hx, hb, hml, hown, hts⟩, hK, hI, hN, hZ, hlocks, hnt, hF, hL, hst, hcs, hss⟩ := C
  subst he
  exact fun H locs ls hP hS hl => va_iast (D := (h.2.1, h.2.2.1)) hx hb hK hP (zD_of σ hI) hS k 0 (zW_at hk) rfl hin hdg (fun H1 locs1 hP1 _ hS1 => kk H1 locs1 ls (by
    rw [zW_set (σ' := zU σ k i.toNatClampNeg x) hk (by rw [zU_s]; rfl) zU_o] at hP1; exact hP1) hS1 hl)
theorem z_zast (C : zCT tb h ad lay nL G cc own Ts F L) {k n : Nat} {i x : Int32} (hk : lay[k]? = some (.inl (1, n))) (hin : vp_in i n) (he : σ1 = zU σ k i.toNatClampNeg (vp_nar .boolean x)) (hdg : decode cc pc = .ok (.bastore, 1))
    (kk : zV h ad lay nL G σ1 (pc + 1) lv st) : zV h ad lay nL G σ pc lv (.int x :: .int i :: .ref (ad k) :: st) := by
  obtain ⟨p, e, R, s, m, args, below, meth, c, Q, cells, slots⟩ := G
  obtain ⟨⟨hx, hb, hml, hown, hts⟩, hK, hI, hN, hZ, hlocks, hnt, hF, hL, hst, hcs, hss⟩ := C
  subst he
  exact fun H locs ls hP hS hl => va_zast (D := (h.2.1, h.2.2.1)) hx hb hK hP (zD_of σ hI) hS k 1 (zW_at hk) rfl hin hdg (fun H1 locs1 hP1 _ hS1 => kk H1 locs1 ls (by
    rw [zW_set (σ' := zU σ k i.toNatClampNeg (vp_nar .boolean x)) hk (by rw [zU_s]; rfl) zU_o] at hP1; exact hP1) hS1 hl)
theorem z_alen (C : zCT tb h ad lay nL G cc own Ts F L) {k n : Nat} {v : Int32} (hk : lay[k]? = some (.inl (0, n))) (hv : Int32.ofNat n = v) (hdg : decode cc pc = .ok (.arraylength, 1))
    (kk : zV h ad lay nL G σ (pc + 1) lv (.int v :: st)) : zV h ad lay nL G σ pc lv (.ref (ad k) :: st) := by
  obtain ⟨p, e, R, s, m, args, below, meth, c, Q, cells, slots⟩ := G
  obtain ⟨⟨hx, hb, hml, hown, hts⟩, hK, hI, hN, hZ, hlocks, hnt, hF, hL, hst, hcs, hss⟩ := C
  exact fun H locs ls hP hS hl => va_alen (D := (h.2.1, h.2.2.1)) hx hb hK hP k 0 (zW_at hk) rfl hv hdg (kk H locs ls hP hS hl)

theorem z_mmin (C : zCT tb h ad lay nL G cc own Ts F L) {i : Nat} {x y : Int32} (h1 : Cond.methodLink own i Lib.Math.min.name ∈ Ts) (h2 : Cond.static Lib.Math.min.name ∈ Ts) (h3 : Cond.initialized "java/lang/Math" ∈ Ts) (h4 : Cond.code Lib.Math.min.name Lib.Math.min.code 2 (some .int) ∈ Ts) (hf : 1 ≤ F) (hL9 : (st.map fun v => v.category).sum + 13 ≤ L) (hdg : decode cc pc = .ok (.invokestatic i, 3))
    (kk : zV h ad lay nL G σ (pc + 3) lv (.int (if y < x then y else x) :: st)) : zV h ad lay nL G σ pc lv (.int y :: .int x :: st) := by
  obtain ⟨p, e, R, s, m, args, below, meth, c, Q, cells, slots⟩ := G
  obtain ⟨⟨hx, hb, hml, hown, hts⟩, hK, hI, hN, hZ, hlocks, hnt, hF, hL, hst, hcs, hss⟩ := C
  exact fun H locs ls hP hS hl => va_mmin hx hb (hml.trans hl.1.symm) hown (hts _ h1) (hts _ h2) (hts _ h3) (hts _ h4) (by rw [hF]; exact hf) (by rw [hL]; exact hL9) hcs hss hdg (kk H locs ls hP hS hl)
theorem z_mmax (C : zCT tb h ad lay nL G cc own Ts F L) {i : Nat} {x y : Int32} (h1 : Cond.methodLink own i Lib.Math.max.name ∈ Ts) (h2 : Cond.static Lib.Math.max.name ∈ Ts) (h3 : Cond.initialized "java/lang/Math" ∈ Ts) (h4 : Cond.code Lib.Math.max.name Lib.Math.max.code 2 (some .int) ∈ Ts) (hf : 1 ≤ F) (hL9 : (st.map fun v => v.category).sum + 13 ≤ L) (hdg : decode cc pc = .ok (.invokestatic i, 3))
    (kk : zV h ad lay nL G σ (pc + 3) lv (.int (if x < y then y else x) :: st)) : zV h ad lay nL G σ pc lv (.int y :: .int x :: st) := by
  obtain ⟨p, e, R, s, m, args, below, meth, c, Q, cells, slots⟩ := G
  obtain ⟨⟨hx, hb, hml, hown, hts⟩, hK, hI, hN, hZ, hlocks, hnt, hF, hL, hst, hcs, hss⟩ := C
  exact fun H locs ls hP hS hl => va_mmax hx hb (hml.trans hl.1.symm) hown (hts _ h1) (hts _ h2) (hts _ h3) (hts _ h4) (by rw [hF]; exact hf) (by rw [hL]; exact hL9) hcs hss hdg (kk H locs ls hP hS hl)
/-- what stands on the stack behind a call -/
def zRv (vd : Bool) (r : Int32) (rest : List Value) : List Value := match vd with
  | true => rest
  | false => .int r :: rest
theorem z_cV (C : zCT tb h ad lay nL G cc own Ts F L) {y : MethodName} {ws ws' : List Cond} {bytes : ByteArray} {maxL : Nat} {ret : Option FieldType} {index F' L' : Nat} {r : Int32} {vd : Bool} (n : Nat) (As : List Value) (rest : List Value) {Cn : String} {k ci : Nat} {fs : List Nat} {q : vw_C} (hM : zMR h ad lay vd y ws F' L' (.ref (ad k) :: As) σ (.inl r) σ1) (hT : GoodIn Ts (wsV own index Cn y ws)) (hd : y.cls = Cn ∧ y.cls ≠ "java/lang/invoke/MethodHandle" ∧ y.cls ≠ "java/lang/invoke/VarHandle" ∧ (parseMethodDescriptor y.desc).map (fun d => d.parameters.length) = some n) (hk : lay[k]? = some (.inr (ci, fs))) (hc : vwCl[ci]? = some q) (hq : q.1 = Cn) (hst : st = As.reverse ++ .ref (ad k) :: rest) (hdg : decode cc pc = .ok (.invokevirtual index, 3)) (hw : ws = Cond.code y bytes maxL ret :: ws') (hR : F' + 1 ≤ F ∧ 8 + (maxL + 11) + L' ≤ L) (hn : As.length = n) (hW : (rest.map fun v => v.category).sum ≤ 8)
    (kk : zV h ad lay nL G σ1 (pc + 3) lv (zRv vd r rest)) : zV h ad lay nL G σ pc lv st := by
  obtain ⟨p, e, R, s, m, args, below, meth, c, Q, cells, slots⟩ := G
  obtain ⟨⟨hx, hb, hml, hown, hts⟩, hK, hI, hN, hZ, hlocks, hnt, hF, hL, hst9, hcs, hss⟩ := C
  intro H locs ls hP hS hl
  have hRR : F' + 1 ≤ R.frames ∧ 8 + (maxL + 11) + L' ≤ R.locals := by rw [hF, hL]; exact hR
  have hA : ∀ q, zA ad lay.length H.size q → zA ad lay.length s.heap.size q := zA_sub hS.1
  have hRun := va_runV (g := F0 m pc ls st) (rest := rest) (H := H) (cells := cells) (slots := slots) (locs := locs) (below := below) (meth := meth) (e := e) ⟨hx, hb, hml, hown, hts⟩ (hM H.size) (cwV n hts hT hw rfl rfl hd hRR) ⟨zPre_blind, hq ▸ va_recv hK hP hc (zW_at hk), fun U hU hW9 => zPre_at hU hW9 hP hK hN hZ hS⟩ rfl hn hl.1 hst (lv_room hW) hdg ⟨hcs, hss⟩
  cases vd with
  | true => exact va_callv (a := #[]) hRun hS (fun q _ h => hA q h) hA (fun u t H1 locs1 ht hvm hw hB hz hk1 hS1 => kk H1 locs1 ls (by rw [← ht]; exact hB) hS1 hl)
  | false => exact va_calli (a := #[]) hRun hS (fun q _ h => hA q h) hA (fun r9 u t H1 locs1 ht hvm hw hB hz hk1 hS1 => by subst hw; exact kk H1 locs1 ls (by rw [← ht]; exact hB) hS1 hl)
theorem z_cS (C : zCT tb h ad lay nL G cc own Ts F L) {y : MethodName} {ws ws' : List Cond} {bytes : ByteArray} {maxL : Nat} {ret : Option FieldType} {index F' L' : Nat} {r : Int32} {vd : Bool} (n : Nat) (As : List Value) (rest : List Value) (hM : zMR h ad lay vd y ws F' L' As σ (.inl r) σ1) (hT : GoodIn Ts (va_wsS own index y ws)) (hd : y.cls ≠ "java/lang/invoke/MethodHandle" ∧ y.cls ≠ "java/lang/invoke/VarHandle" ∧ (parseMethodDescriptor y.desc).map (fun d => d.parameters.length) = some n) (hst : st = As.reverse ++ rest) (hdg : decode cc pc = .ok (.invokestatic index, 3)) (hw : ws = Cond.code y bytes maxL ret :: ws') (hR : F' + 1 ≤ F ∧ 8 + (maxL + 11) + L' ≤ L) (hn : As.length = n) (hW : (rest.map fun v => v.category).sum ≤ 8)
    (kk : zV h ad lay nL G σ1 (pc + 3) lv (zRv vd r rest)) : zV h ad lay nL G σ pc lv st := by
  obtain ⟨p, e, R, s, m, args, below, meth, c, Q, cells, slots⟩ := G
  obtain ⟨⟨hx, hb, hml, hown, hts⟩, hK, hI, hN, hZ, hlocks, hnt, hF, hL, hst9, hcs, hss⟩ := C
  intro H locs ls hP hS hl
  have hRR : F' + 1 ≤ R.frames ∧ 8 + (maxL + 11) + L' ≤ R.locals := by rw [hF, hL]; exact hR
  have hA : ∀ q, zA ad lay.length H.size q → zA ad lay.length s.heap.size q := zA_sub hS.1
  have hRun := va_runS (g := F0 m pc ls st) (rest := rest) (H := H) (cells := cells) (slots := slots) (locs := locs) (below := below) (meth := meth) (e := e) ⟨hx, hb, hml, hown, hts⟩ (hM H.size) (va_cwS n hts hT hw rfl rfl hd hRR) ⟨zPre_blind, fun U hU hW9 => zPre_at hU hW9 hP hK hN hZ hS⟩ rfl hn hl.1 hst (lv_room hW) hdg ⟨hcs, hss⟩
  cases vd with
  | true => exact va_callv (a := #[]) hRun hS (fun q _ h => hA q h) hA (fun u t H1 locs1 ht hvm hw hB hz hk1 hS1 => kk H1 locs1 ls (by rw [← ht]; exact hB) hS1 hl)
  | false => exact va_calli (a := #[]) hRun hS (fun q _ h => hA q h) hA (fun r9 u t H1 locs1 ht hvm hw hB hz hk1 hS1 => by subst hw; exact kk H1 locs1 ls (by rw [← ht]; exact hB) hS1 hl)
theorem z_cSN (C : zCT tb h ad lay nL G cc own Ts F L) {y : MethodName} {ws ws' : List Cond} {bytes : ByteArray} {maxL : Nat} {ret : Option FieldType} {index F' L' : Nat} {r : Int32} {vd : Bool} (n : Nat) (As : List Value) (rest : List Value) {host : String} (hM : zMR h ad lay vd y ws F' L' As σ (.inl r) σ1) (hT : GoodIn Ts ws) (hnn : (own, index, y, host) ∈ zN) (h1 : Cond.static y ∈ Ts) (h2 : Cond.initialized y.cls ∈ Ts) (hd : y.cls ≠ "java/lang/invoke/MethodHandle" ∧ y.cls ≠ "java/lang/invoke/VarHandle" ∧ (parseMethodDescriptor y.desc).map (fun d => d.parameters.length) = some n) (hst : st = As.reverse ++ rest) (hdg : decode cc pc = .ok (.invokestatic index, 3)) (hw : ws = Cond.code y bytes maxL ret :: ws') (hR : F' + 1 ≤ F ∧ 8 + (maxL + 11) + L' ≤ L) (hn : As.length = n) (hW : (rest.map fun v => v.category).sum ≤ 8)
    (kk : zV h ad lay nL G σ1 (pc + 3) lv (zRv vd r rest)) : zV h ad lay nL G σ pc lv st := by
  obtain ⟨p, e, R, s, m, args, below, meth, c, Q, cells, slots⟩ := G
  obtain ⟨⟨hx, hb, hml, hown, hts⟩, hK, hI, hN, hZ, hlocks, hnt, hF, hL, hst9, hcs, hss⟩ := C
  intro H locs ls hP hS hl
  have hRR : F' + 1 ≤ R.frames ∧ 8 + (maxL + 11) + L' ≤ R.locals := by rw [hF, hL]; exact hR
  have hA : ∀ q, zA ad lay.length H.size q → zA ad lay.length s.heap.size q := zA_sub hS.1
  have hRun := va_runSN (host := host) (g := F0 m pc ls st) (rest := rest) (H := H) (cells := cells) (slots := slots) (locs := locs) (below := below) (meth := meth) (e := e) ⟨hx, hb, hml, hown, hts⟩ (hM H.size) ⟨va_cnB n hts hT hw rfl rfl (hN.1 _ hnn) (hts _ h2) hd hRR, hts _ h1, trivial⟩ ⟨zPre_blind, fun U hU hW9 => zPre_at hU hW9 hP hK hN hZ hS⟩ rfl hn hl.1 hst (lv_room hW) hdg ⟨hcs, hss⟩
  cases vd with
  | true => exact va_callv (a := #[]) hRun hS (fun q _ h => hA q h) hA (fun u t H1 locs1 ht hvm hw hB hz hk1 hS1 => kk H1 locs1 ls (by rw [← ht]; exact hB) hS1 hl)
  | false => exact va_calli (a := #[]) hRun hS (fun q _ h => hA q h) hA (fun r9 u t H1 locs1 ht hvm hw hB hz hk1 hS1 => by subst hw; exact kk H1 locs1 ls (by rw [← ht]; exact hB) hS1 hl)
/-- a static callee throws: it leaves this method too -/
theorem z_xS (C : zCT [] h ad lay nL G cc own Ts F L) {y : MethodName} {ws ws' : List Cond} {bytes : ByteArray} {maxL : Nat} {ret ret0 : Option FieldType} {index F' L' : Nat} {k : Nat} {vd vd0 : Bool} (n : Nat) (As : List Value) (rest : List Value) (hM : zMR h ad lay vd y ws F' L' As σ (.inr k) σ1) (hQ : zQ h ad lay G vd0 (.inr k) σ1 ret0) (hT : GoodIn Ts (va_wsS own index y ws)) (hd : y.cls ≠ "java/lang/invoke/MethodHandle" ∧ y.cls ≠ "java/lang/invoke/VarHandle" ∧ (parseMethodDescriptor y.desc).map (fun d => d.parameters.length) = some n) (hst : st = As.reverse ++ rest) (hdg : decode cc pc = .ok (.invokestatic index, 3)) (hw : ws = Cond.code y bytes maxL ret :: ws') (hR : F' + 1 ≤ F ∧ 8 + (maxL + 11) + L' ≤ L) (hn : As.length = n) (hW : (rest.map fun v => v.category).sum ≤ 8) : zV h ad lay nL G σ pc lv st := by
  obtain ⟨p, e, R, s, m, args, below, meth, c, Q, cells, slots⟩ := G
  obtain ⟨⟨hx, hb, hml, hown, hts⟩, hK, hI, hN, hZ, hlocks, hnt, hF, hL, hst9, hcs, hss⟩ := C
  obtain ⟨rfl, hret, hroom, rfl, rfl⟩ := hQ
  obtain ⟨hr1, hr2⟩ := hroom k rfl
  intro H locs ls hP hS hl
  have hRR : F' + 1 ≤ R.frames ∧ 8 + (maxL + 11) + L' ≤ R.locals := by rw [hF, hL]; exact hR
  have hA : ∀ q, zA ad lay.length H.size q → zA ad lay.length s.heap.size q := zA_sub hS.1
  exact vx_callv (vx_runS (g := F0 m pc ls st) (rest := rest) (H := H) (cells := 0) (slots := 0) (locs := locs) (below := below) (meth := meth) (e := e) ⟨hx, hb, hml, hown, hts⟩ (hM H.size) (va_cwS n hts hT hw rfl rfl hd hRR) ⟨zPre_blind, fun U hU hW9 => zPre_at hU hW9 hP hK hN hZ hS⟩ rfl hn hl.1 hst (lv_room hW) hdg ⟨by omega, by omega⟩) hS (fun q _ h => hA q h) hA (fun q _ h => hA q h)
    (fun E ce q9 u t H1 locs1 ht hvm hpx hB hz hk1 hS1 hce hcv hcl => vx_out (fun x hx => by rw [hnt] at hx; cases hx) hlocks hce hcv hcl (fun t9 ht9 hvm9 => ⟨(), trivial, ⟨hB.1, by rw [ht9, ← ht]; exact hB.2⟩, hS1.F ht9⟩) hS1.2.2 (Nat.le_refl _) (Nat.le_refl _))
    (fun u t H1 locs1 ht hvm hw hB hz hk1 hS1 => hw.elim)
/-- throw new E() -/
theorem z_throw (C : zCT [] h ad lay nL G cc own Ts F L) {cls : String} {names : List String} {ik ic k : Nat} {vd : Bool} {ret : Option FieldType} (hQ : zQ h ad lay G vd (.inr k) σ ret) (hE : cls = zEx k) (hcls : Bundle.fit cls = true) (hnames : ∀ n ∈ names, Bundle.fit n = true) (hk : Cond.classLink own ik cls ∈ Ts) (hini : Cond.initialized cls ∈ Ts) (hat : ∀ w ∈ (vx_at0 own ic cls names).filter goodWord, w ∈ Ts) (hB : ∀ w ∈ (vx_at0 own ic cls names).filter (fun w => !goodWord w), w ∈ zBl cls) (hgood : ∀ w ∈ Cond.classLink own ik cls :: Cond.initialized cls :: vx_at0 own ic cls names, vx_ot w = true)
    (d0 : decode cc pc = .ok (.new ik, 3)) (d3 : decode cc (pc + 3) = .ok (.dup, 1)) (d4 : decode cc (pc + 4) = .ok (.invokespecial ic, 3)) (d7 : decode cc (pc + 7) = .ok (.athrow, 1)) (hRf : names.length + 3 < F) (hRl : (st.map fun v => v.category).sum + (13 * (names.length + 1) + 42) ≤ L) : zV h ad lay nL G σ pc lv st := by
  obtain ⟨p, e, R, s, m, args, below, meth, c, Q, cells, slots⟩ := G
  obtain ⟨⟨hx, hb, hml, hown, hts⟩, hK, hI, hN, hZ, hlocks, hnt, hF, hL, hst9, hcs, hss⟩ := C
  obtain ⟨rfl, hret, hroom, rfl, rfl⟩ := hQ
  obtain ⟨hr1, hr2⟩ := hroom k rfl
  intro H locs ls hP hS hl
  exact vx_throw0 hx hb hst9 hown hcls hnames (hts _ hk) (hts _ hini) (vx_hat (fun w hw => hts _ (hat w hw)) hB (zBl_of (by rw [hE]; exact hN.2.1 k) hN.2.2.1)) hgood hZ.1 hZ.2 hS (hl.1.trans hml.symm) d0 d3 d4 d7 (fun x hx => by rw [hnt] at hx; cases hx) (by rw [hF]; exact hRf) (by rw [hL]; exact hRl) (by omega) (by omega) hlocks
    (fun t hvm hsz hk1 => ⟨(), trivial, ⟨hE, hP.kept (fun k q hq => hk1 _ (hP k q hq).lt)⟩, Nat.le_trans hS.1 hsz, fun q h1 h2 => by rw [hk1 q (Nat.lt_of_lt_of_le h1 hS.1)]; exact hS.2.1 q h1 h2⟩) hS.2.2 (Nat.le_refl _) (Nat.le_refl _)
theorem z_iret0 (C : zCT tb h ad lay nL G cc own Ts F L) {res : Int32 ⊕ Nat} {v : Int32} (hQ : zQ h ad lay G false res σ' (some .int)) (hr : res = .inl v) (hs : σ' = σ) (hdg : decode cc pc = .ok (.ireturn, 1)) : zV h ad lay nL G σ pc lv [.int v] := by
  obtain ⟨p, e, R, s, m, args, below, meth, c, Q, cells, slots⟩ := G
  obtain ⟨⟨hx, hb, hml, hown, hts⟩, hK, hI, hN, hZ, hlocks, hnt, hF, hL, hst9, hcs, hss⟩ := C
  subst hr; subst hs
  obtain ⟨rfl, hret, hroom, rfl, rfl⟩ := hQ
  exact fun H locs ls hP hS hl => W.iret hx hb hret (fun t ht hW => ⟨⟨v, (), rfl, rfl, (ht ▸ hP : zPst h ad lay _ t.heap)⟩, hS.F ht⟩) hS.2.2 hdg
theorem z_zret0 (C : zCT tb h ad lay nL G cc own Ts F L) {res : Int32 ⊕ Nat} {v : Int32} (hQ : zQ h ad lay G false res σ' (some .boolean)) (hr : res = .inl v) (hs : σ' = σ) (hn : vp_nar .boolean v = v) (hdg : decode cc pc = .ok (.ireturn, 1)) : zV h ad lay nL G σ pc lv [.int v] := by
  obtain ⟨p, e, R, s, m, args, below, meth, c, Q, cells, slots⟩ := G
  obtain ⟨⟨hx, hb, hml, hown, hts⟩, hK, hI, hN, hZ, hlocks, hnt, hF, hL, hst9, hcs, hss⟩ := C
  subst hr; subst hs
  obtain ⟨rfl, hret, hroom, rfl, rfl⟩ := hQ
  have hn2 : narrow .boolean (.int v) = .int v := congrArg Value.int hn
  exact fun H locs ls hP hS hl => W.zret hx hb hret hn2 (fun t ht hW => ⟨⟨v, (), rfl, rfl, (ht ▸ hP : zPst h ad lay _ t.heap)⟩, hS.F ht⟩) hS.2.2 hdg
theorem z_vret0 (C : zCT tb h ad lay nL G cc own Ts F L) {res : Int32 ⊕ Nat} (hQ : zQ h ad lay G true res σ' none) (hr : res = .inl 0) (hs : σ' = σ) (hdg : decode cc pc = .ok (.return_, 1)) : zV h ad lay nL G σ pc lv [] := by
  obtain ⟨p, e, R, s, m, args, below, meth, c, Q, cells, slots⟩ := G
  obtain ⟨⟨hx, hb, hml, hown, hts⟩, hK, hI, hN, hZ, hlocks, hnt, hF, hL, hst9, hcs, hss⟩ := C
  subst hr; subst hs
  obtain ⟨rfl, hret, hroom, rfl, rfl⟩ := hQ
  exact fun H locs ls hP hS hl => W.vret hx hb hret (fun t ht hW => ⟨⟨(), rfl, trivial, (ht ▸ hP : zPst h ad lay _ t.heap)⟩, hS.F ht⟩) hS.2.2 hdg
theorem zC_I (C : zCT tb h ad lay nL G cc own Ts F L) : zI ad lay.length := by
  obtain ⟨p, e, R, s, m, args, below, meth, c, Q, cells, slots⟩ := G
  exact C.2.2.1
theorem zC_st (C : zCT tb h ad lay nL G cc own Ts F L) : h.1.stackTraces = false := by
  obtain ⟨p, e, R, s, m, args, below, meth, c, Q, cells, slots⟩ := G
  exact C.2.2.2.2.2.2.2.2.2.1
end ZL
section ZM
/-! the words that the models are written in -/
variable {β : Type}
def zRt (v : Int32) (σ : zS) : Option (Int32 × zS) := some (v, σ)
def zRx (v : Int32) (σ : zS) : Option ((Int32 ⊕ Nat) × zS) := some (.inl v, σ)
def zTx (k : Nat) (σ : zS) : Option ((Int32 ⊕ Nat) × zS) := some (.inr k, σ)
def zLt {α : Type} (x : α) (f : α → Option β) : Option β := f x
def zRd (g : Nat → Int32) (i : Int32) (n : Nat) (f : Int32 → Option β) : Option β := if i < 0 ∨ n ≤ i.toNatClampNeg then none else f (g i.toNatClampNeg)
def zWr (σ : zS) (k : Nat) (i : Int32) (n : Nat) (v : Int32) (f : zS → Option β) : Option β := if i < 0 ∨ n ≤ i.toNatClampNeg then none else f (zU σ k i.toNatClampNeg v)
def zGd (c : Prop) [Decidable c] (x : Option β) : Option β := if c then x else none
def zBd (x : Option (Int32 × zS)) (f : Int32 → zS → Option β) : Option β := match x with
  | some (v, s) => f v s
  | none => none
def zBx (x : Option ((Int32 ⊕ Nat) × zS)) (f : Int32 → zS → Option ((Int32 ⊕ Nat) × zS)) : Option ((Int32 ⊕ Nat) × zS) := match x with
  | some (.inl v, s) => f v s
  | some (.inr k, s) => some (.inr k, s)
  | none => none
theorem zRt_of {v r : Int32} {σ σ' : zS} (h : zRt v σ = some (r, σ')) : (Sum.inl r : Int32 ⊕ Nat) = .inl v ∧ σ' = σ := by cases h; exact ⟨rfl, rfl⟩
theorem zRx_of {v : Int32} {res : Int32 ⊕ Nat} {σ σ' : zS} (h : zRx v σ = some (res, σ')) : res = .inl v ∧ σ' = σ := by cases h; exact ⟨rfl, rfl⟩
theorem zTx_of {k : Nat} {res : Int32 ⊕ Nat} {σ σ' : zS} (h : zTx k σ = some (res, σ')) : res = .inr k ∧ σ' = σ := by cases h; exact ⟨rfl, rfl⟩
theorem zLt_of {α : Type} {x : α} {f : α → Option β} {r : β} (h : zLt x f = some r) : ∃ y, y = x ∧ f y = some r := ⟨x, rfl, h⟩
theorem zRd_of {g : Nat → Int32} {i : Int32} {n : Nat} {f : Int32 → Option β} {r : β} (h : zRd g i n f = some r) : ∃ v, vp_in i n ∧ v = g i.toNatClampNeg ∧ f v = some r := by
  unfold zRd at h
  split at h
  · cases h
  · exact ⟨_, by assumption, rfl, h⟩
theorem zWr_of {σ : zS} {k : Nat} {i : Int32} {n : Nat} {v : Int32} {f : zS → Option β} {r : β} (h : zWr σ k i n v f = some r) : ∃ σ1, vp_in i n ∧ σ1 = zU σ k i.toNatClampNeg v ∧ f σ1 = some r := by
  unfold zWr at h
  split at h
  · cases h
  · exact ⟨_, by assumption, rfl, h⟩
theorem zGd_of {c : Prop} [Decidable c] {x : Option β} {r : β} (h : zGd c x = some r) : c ∧ x = some r := by
  unfold zGd at h
  split at h
  · exact ⟨by assumption, h⟩
  · cases h
theorem zBd_of {x : Option (Int32 × zS)} {f : Int32 → zS → Option β} {r : β} (h : zBd x f = some r) : ∃ v s, x = some (v, s) ∧ f v s = some r := by
  unfold zBd at h
  split at h
  · exact ⟨_, _, rfl, h⟩
  · cases h
theorem zBx_of {x : Option ((Int32 ⊕ Nat) × zS)} {f : Int32 → zS → Option ((Int32 ⊕ Nat) × zS)} {r : Int32 ⊕ Nat} {σ' : zS} (h : zBx x f = some (r, σ')) : (∃ v s, x = some (.inl v, s) ∧ f v s = some (r, σ')) ∨ (∃ k, x = some (.inr k, σ') ∧ r = .inr k) := by
  unfold zBx at h
  split at h
  · exact Or.inl ⟨_, _, rfl, h⟩
  · cases h; exact Or.inr ⟨_, rfl, rfl⟩
  · cases h
theorem zIt {c : Prop} [Decidable c] {a b : Option β} {r : β} (h : (if c then a else b) = some r) (hc : c) : a = some r := by rw [if_pos hc] at h; exact h
theorem zIf {c : Prop} [Decidable c] {a b : Option β} {r : β} (h : (if c then a else b) = some r) (hc : ¬ c) : b = some r := by rw [if_neg hc] at h; exact h
end ZM
end
section
section ZS2
/-! worlds inside worlds: a callee's layout is a stretch of the caller's -/
def zAo (ad : Nat → Nat) (o : Nat) : Nat → Nat := fun k => ad (k + o)
def zSo (σ : zS) (o : Nat) : zS := fun k => σ (k + o)
def zMix (o n : Nat) (σ σ1 : zS) : zS := fun k => if o ≤ k ∧ k < o + n then σ1 (k - o) else σ k
def zSh (o : Nat) (kd : zK) : zK := match kd with
  | .inl q => .inl q
  | .inr q => .inr (q.1, q.2.map (fun f => if f < 2 then f else f + o))
def zSb (o : Nat) (lay' lay : List zK) : Prop := ∀ k kd, lay'[k]? = some kd → lay[k + o]? = some (zSh o kd)
variable {tb : List ExceptionTableEntry} {h : zH} {ad : Nat → Nat} {lay lay' : List zK} {nL o : Nat} {G : zG} {cc : ByteArray} {own : String} {Ts : List Cond} {F L : Nat} {σ σ1 σ' : zS} {pc : Nat} {lv lv' : List (Nat × Value)} {st rest : List Value}
theorem zSb_of (hd : (List.range lay'.length).all (fun k => decide (lay[k + o]? = (lay'[k]?).map (zSh o))) = true) : zSb o lay' lay := by
  intro k kd hk
  have hl := (List.getElem?_eq_some_iff.mp hk).1
  have h1 := List.all_eq_true.mp hd k (List.mem_range.mpr hl)
  have h2 := of_decide_eq_true h1
  rw [h2, hk]; rfl
theorem zSb_lt (hs : zSb o lay' lay) {k : Nat} (hk : k < lay'.length) : k + o < lay.length :=
  (List.getElem?_eq_some_iff.mp (hs k _ (List.getElem?_eq_getElem hk))).1
theorem zF_sh {f : Nat → Int32} {i x : Nat} : zF ad f i (if x < 2 then x else x + o) = zF (zAo ad o) f i x := by
  rcases x with _ | _ | x
  · rfl
  · rfl
  · have h1 : ¬ x + 1 + 1 < 2 := by omega
    rw [if_neg h1, show x + 1 + 1 + o = (x + o) + 2 by omega]
    rfl
theorem zE_sh {cA : Nat → ClassId} {f : Nat → Int32} {kd : zK} : zE cA ad f (zSh o kd) = zE cA (zAo ad o) f kd := by
  rcases kd with ⟨z, n⟩ | ⟨ci, fs⟩
  · rcases z with _ | _ | _ | z <;> rfl
  · show (Sum.inr (ci, (fs.map (fun f => if f < 2 then f else f + o)).mapIdx (zF ad f)) : va_E) = Sum.inr (ci, fs.mapIdx (zF (zAo ad o) f))
    congr 2
    apply List.ext_getElem?
    intro i
    simp only [List.getElem?_mapIdx, List.getElem?_map]
    cases fs[i]? with
    | none => rfl
    | some x => exact congrArg some zF_sh
theorem zW_is {cA : Nat → ClassId} {k : Nat} {q : Nat × va_E} (hq : (zW cA ad lay σ)[k]? = some q) : ∃ kd, lay[k]? = some kd ∧ q = (ad k, zE cA ad (σ k) kd) := by
  have hk := (zW_key hq).1
  refine ⟨_, List.getElem?_eq_getElem hk, ?_⟩
  rw [zW_at (List.getElem?_eq_getElem hk)] at hq
  exact (Option.some.inj hq).symm
theorem zPst_sub {H : Heap} (hs : zSb o lay' lay) (hP : zPst h ad lay σ H) : zPst h (zAo ad o) lay' (zSo σ o) H := by
  intro k q hq
  obtain ⟨kd, hk, rfl⟩ := zW_is hq
  have h3 := hP (k + o) _ (zW_at (hs k kd hk))
  rw [zE_sh] at h3
  exact h3
theorem zI_sub (hs : zSb o lay' lay) (hI : zI ad lay.length) : zI (zAo ad o) lay'.length := fun i j hi hj e => by
  have := hI (i + o) (j + o) (zSb_lt hs hi) (zSb_lt hs hj) e
  omega
theorem zA_so (hs : zSb o lay' lay) {a : Nat} : ∀ q, zA (zAo ad o) lay'.length a q → zA ad lay.length a q := by
  rintro q (⟨k, hk, e⟩ | hq)
  · exact Or.inl ⟨k + o, zSb_lt hs hk, e⟩
  · exact Or.inr hq
theorem zPst_back {H H1 : Heap} (hs : zSb o lay' lay) (hI : zI ad lay.length) (hP : zPst h ad lay σ H) (hk1 : ∀ q : Nat, q < H.size → ¬ zA (zAo ad o) lay'.length H.size q → H1[q]? = H[q]?) (hP1 : zPst h (zAo ad o) lay' σ1 H1) : zPst h ad lay (zMix o lay'.length σ σ1) H1 := by
  intro k q hq
  obtain ⟨kd, hk, rfl⟩ := zW_is hq
  by_cases hin : o ≤ k ∧ k < o + lay'.length
  · have hl : k - o < lay'.length := by omega
    have h2 := hs (k - o) _ (List.getElem?_eq_getElem hl)
    rw [show k - o + o = k by omega, hk] at h2
    have h3 := hP1 (k - o) _ (zW_at (List.getElem?_eq_getElem hl))
    have e1 : zMix o lay'.length σ σ1 k = σ1 (k - o) := by unfold zMix; rw [if_pos hin]
    rw [e1, Option.some.inj h2, zE_sh]
    have e2 : zAo ad o (k - o) = ad k := by unfold zAo; rw [show k - o + o = k by omega]
    rw [← e2]
    exact h3
  · have h3 := hP k _ (zW_at hk)
    have e1 : zMix o lay'.length σ σ1 k = σ k := by unfold zMix; rw [if_neg hin]
    rw [e1]
    refine h3.kept (hk1 (ad k) h3.lt ?_)
    rintro (⟨j, hj, e⟩ | hq9)
    · have := hI k (j + o) (List.getElem?_eq_some_iff.mp hk).1 (zSb_lt hs hj) e
      omega
    · exact absurd h3.lt (Nat.not_lt.mpr hq9)
theorem zPre_at2 {A0 : Nat → Prop} {argv : List Value} {s U : State} {H : Heap} {locs : List Loc} (hU : U.heap = H) (hW : s.WarmedH U.vm) (hP : zPst h ad lay σ H) (hK : va_K (h.2.1, h.2.2.1) vwCl (zT h.2.2.2) s) (hN : zHN s) (hZ : zHS A0 s s.heap) (hS : va_S A0 s.heap H locs) (hAB : ∀ q, zA ad lay.length H.size q → A0 q) : zPre h ad lay σ argv H.size argv.toArray U := by
  subst hU
  exact ⟨rfl, rfl, hP, va_K.moved hW.alike hK, zHN_warm hW hN, zHS_to hZ hS.2.1 hAB hW.alike⟩
/-- a method of an object of a part of the world -/
theorem z_dV (C : zCT tb h ad lay nL G cc own Ts F L) {y : MethodName} {ws ws' : List Cond} {bytes : ByteArray} {maxL : Nat} {ret : Option FieldType} {index F' L' : Nat} {r : Int32} {vd : Bool} (n : Nat) (As : List Value) (rest : List Value) {Cn : String} {k ci : Nat} {fs : List Nat} {q : vw_C} (hs : zSb o lay' lay) (hM : zMR h (zAo ad o) lay' vd y ws F' L' (.ref (zAo ad o k) :: As) (zSo σ o) (.inl r) σ1) (hT : GoodIn Ts (wsV own index Cn y ws)) (hd : y.cls = Cn ∧ y.cls ≠ "java/lang/invoke/MethodHandle" ∧ y.cls ≠ "java/lang/invoke/VarHandle" ∧ (parseMethodDescriptor y.desc).map (fun d => d.parameters.length) = some n) (hk : lay'[k]? = some (.inr (ci, fs))) (hc : vwCl[ci]? = some q) (hq : q.1 = Cn) (hst : st = As.reverse ++ .ref (zAo ad o k) :: rest) (hdg : decode cc pc = .ok (.invokevirtual index, 3)) (hw : ws = Cond.code y bytes maxL ret :: ws') (hR : F' + 1 ≤ F ∧ 8 + (maxL + 11) + L' ≤ L) (hn : As.length = n) (hW : (rest.map fun v => v.category).sum ≤ 8)
    (kk : zV h ad lay nL G (zMix o lay'.length σ σ1) (pc + 3) lv (zRv vd r rest)) : zV h ad lay nL G σ pc lv st := by
  obtain ⟨p, e, R, s, m, args, below, meth, c, Q, cells, slots⟩ := G
  obtain ⟨⟨hx, hb, hml, hown, hts⟩, hK, hI, hN, hZ, hlocks, hnt, hF, hL, hst9, hcs, hss⟩ := C
  intro H locs ls hP hS hl
  have hRR : F' + 1 ≤ R.frames ∧ 8 + (maxL + 11) + L' ≤ R.locals := by rw [hF, hL]; exact hR
  have hP' := zPst_sub hs hP
  have hA : ∀ q, zA (zAo ad o) lay'.length H.size q → zA ad lay.length s.heap.size q := fun q hq => zA_sub hS.1 q (zA_so hs q hq)
  have hRun := va_runV (g := F0 m pc ls st) (rest := rest) (H := H) (cells := cells) (slots := slots) (locs := locs) (below := below) (meth := meth) (e := e) ⟨hx, hb, hml, hown, hts⟩ (hM H.size) (cwV n hts hT hw rfl rfl hd hRR) ⟨zPre_blind, hq ▸ va_recv hK hP' hc (zW_at hk), fun U hU hW9 => zPre_at2 hU hW9 hP' hK hN hZ hS hA⟩ rfl hn hl.1 hst (lv_room hW) hdg ⟨hcs, hss⟩
  cases vd with
  | true => exact va_callv (a := #[]) hRun hS (fun q _ h => hA q h) hA (fun u t H1 locs1 ht hvm hw hB hz hk1 hS1 => kk H1 locs1 ls (zPst_back hs hI hP hk1 (by rw [← ht]; exact hB)) hS1 hl)
  | false => exact va_calli (a := #[]) hRun hS (fun q _ h => hA q h) hA (fun r9 u t H1 locs1 ht hvm hw hB hz hk1 hS1 => by subst hw; exact kk H1 locs1 ls (zPst_back hs hI hP hk1 (by rw [← ht]; exact hB)) hS1 hl)
/-! helpers: methods that catch; at most one cell of six slots is made -/
def zMH (h : zH) (ad : Nat → Nat) (lay : List zK) (y : MethodName) (ws : List Cond) (F L : Nat) (argv : List Value) (σ : zS) (r : Int32) (σ' : zS) : Prop :=
  ∀ sz, Met h.1 y ws { frames := F, cells := 1, slots := 6, locals := L } (zPre h ad lay σ argv sz) (zQc h ad lay false (zA ad lay.length sz) r σ') 1 6 (zA ad lay.length sz)
def zQh (h : zH) (ad : Nat → Nat) (lay : List zK) (G : zG) (r : Int32) (σ' : zS) (ret : Option FieldType) : Prop := match G with
  | (_, _, R, s, _, args, below, meth, _, Q, cells, slots) => Q = MQ below (zQc h ad lay false (zA ad lay.length s.heap.size) r σ') args s 1 6 (zA ad lay.length s.heap.size) ∧ meth.sig.returnType = ret ∧ 1 ≤ R.cells ∧ 6 ≤ R.slots ∧ cells = 0 ∧ slots = 0
theorem z_ofWH {l : Launch} {y : MethodName} {ws ws' : List Cond} {rm : Room} {Pc : Array Value → State → Prop} {Qc : Array Value → State → Outcome → State → Prop} {mc ms : Nat} {free : Addr → Prop} {cc : ByteArray} {maxL : Nat} {ret : Option FieldType} {hh : List (Nat × Nat × Nat × Nat)}
    (hy : plainName y.cls = true) (hw : ws = Cond.codeWith y cc maxL ret hh :: ws')
    (body : ∀ p e s m args below meth c s₁, BodyLoose p l y (headSpec ws rm) cc maxL ret e s m args below meth c s₁ → c.maxLocals = maxL → Pc args s →
      W p l e (headSpec ws rm).room s m args below meth c s.heap [] 0 0 (MQ below Qc args s mc ms free) (entryFrame m args maxL)) : Met l y ws rm Pc Qc mc ms free := by
  refine MetFree.of_bodyS (code := cc) (maxLocals := maxL) (ret := ret) hy ?_ ?_
  · intro args s m h hn
    obtain ⟨m9, meth, c, hn9, h1, h2, h3, h4, -, h5, h6, -⟩ := Cond.codeWith_spec (atoms_spec (ws := ws) h _ (by rw [hw]; exact List.mem_cons_self))
    cases hn.symm.trans hn9
    exact ⟨meth, c, h1, h2, h3, h4, h5, h6⟩
  · intro p e s m args below meth c s₁ B hml hP _
    have hh0 : s₁.heap = s.heap := by rw [B.state]; rfl
    obtain ⟨t, a1, o, b1, b2, b3⟩ := body p e s m args below meth c s₁ B hml hP s₁ hh0 (Stand.of_body B)
    exact ⟨t, o, a1, b1, b2, ⟨b3.1, b3.2⟩⟩
theorem z_startH {y : MethodName} {ws ws' : List Cond} {ret : Option FieldType} {argv : List Value} {r : Int32} {hh : List (Nat × Nat × Nat × Nat)} (hy : plainName y.cls = true) (hw : ws = Cond.codeWith y cc nL ret hh :: ws') (hown : y.cls = own) (hI : zI ad lay.length) (hst : h.1.stackTraces = false) (hlen : (lg_sl argv).length ≤ nL)
    (body : ∀ G, zCT (tableOf hh) h ad lay nL G cc own ws F L → zQh h ad lay G r σ' ret → zV h ad lay nL G σ 0 (lv_args 0 argv) []) : zMH h ad lay y ws F L argv σ r σ' := by
  intro sz
  refine z_ofWH (cc := cc) (maxL := nL) (ret := ret) hy hw ?_
  intro p e s m args below meth c s₁ B hml hv
  obtain ⟨rfl, hsz, hP, hK, hN, hZ⟩ := hv
  subst hsz
  have tab : c.exceptionTable.toList = tableOf hh := vx_table (x := y) B (atoms_spec (ws := ws) B.pre _ (by rw [hw]; exact List.mem_cons_self))
  rw [lg_entry_eq]
  exact body (p, e, { frames := F, cells := 1, slots := 6, locals := L }, s, m, argv.toArray, below, meth, c, _, 0, 0) ⟨⟨B.exec, B.bytes, hml, by rw [← hown]; exact findClass_of_methodNamed B.named, atoms_spec (ws := ws) B.pre⟩, hK, hI, hN, hZ, B.notSynchronized, tab, rfl, rfl, hst, Nat.zero_le _, Nat.zero_le _⟩ ⟨rfl, B.returns, Nat.le_refl _, Nat.le_refl _, rfl, rfl⟩ s.heap [] _ hP va_S.rf (lv_entry argv hlen)
theorem z_hret (C : zCT tb h ad lay nL G cc own Ts F L) {r v : Int32} (hQ : zQh h ad lay G r σ' (some .int)) (hr : r = v) (hs : σ' = σ) (hdg : decode cc pc = .ok (.ireturn, 1)) : zV h ad lay nL G σ pc lv [.int v] := by
  obtain ⟨p, e, R, s, m, args, below, meth, c, Q, cells, slots⟩ := G
  obtain ⟨⟨hx, hb, hml, hown, hts⟩, hK, hI, hN, hZ, hlocks, hnt, hF, hL, hst9, hcs, hss⟩ := C
  subst hr; subst hs
  obtain ⟨rfl, hret, hr1, hr2, rfl, rfl⟩ := hQ
  exact fun H locs ls hP hS hl => W.widen (k := 1) (n := 6) (Nat.zero_le _) (Nat.zero_le _) (W.iret hx hb hret (fun t ht hW => ⟨⟨r, (), rfl, rfl, (ht ▸ hP : zPst h ad lay _ t.heap)⟩, hS.F ht⟩) hS.2.2 hdg)
/-- the callee throws, and a row of this method's table takes it: 'astore; iconst; ireturn' -/
theorem z_hx (C : zCT tb h ad lay nL G cc own Ts F L) {y : MethodName} {ws ws' : List Cond} {bytes : ByteArray} {maxL : Nat} {ret : Option FieldType} {index F' L' : Nat} {r : Int32} {ex : Nat} {vd : Bool} (n : Nat) (As : List Value) (rest : List Value) {Cn : String} {k ci : Nat} {fs : List Nat} {q : vw_C} (hs : zSb o lay' lay) (hM : zMR h (zAo ad o) lay' vd y ws F' L' (.ref (zAo ad o k) :: As) (zSo σ o) (.inr ex) σ1) (hQ : zQh h ad lay G r σ' (some .int)) (hT : GoodIn Ts (wsV own index Cn y ws)) (hd : y.cls = Cn ∧ y.cls ≠ "java/lang/invoke/MethodHandle" ∧ y.cls ≠ "java/lang/invoke/VarHandle" ∧ (parseMethodDescriptor y.desc).map (fun d => d.parameters.length) = some n) (hk : lay'[k]? = some (.inr (ci, fs))) (hc : vwCl[ci]? = some q) (hq : q.1 = Cn) (hst : st = As.reverse ++ .ref (zAo ad o k) :: rest) (hdg : decode cc pc = .ok (.invokevirtual index, 3)) (hw : ws = Cond.code y bytes maxL ret :: ws') (hR : F' + 1 ≤ F ∧ 8 + (maxL + 11) + L' ≤ L) (hn : As.length = n) (hW : (rest.map fun v => v.category).sum ≤ 8)
    (pre : List ExceptionTableEntry) (x : ExceptionTableEntry) (suf : List ExceptionTableEntry) (htb : tb = pre ++ x :: suf) (hpass : ∀ z ∈ pre, z.catchType ≠ 0 ∧ ∃ j, Cond.classLink own z.catchType (zEx j) ∈ Ts ∧ zEx ex ≠ zEx j) (hcov : covers x pc = true) (h0 : x.catchType ≠ 0) (hlink : Cond.classLink own x.catchType (zEx ex) ∈ Ts)
    {i len : Nat} {v : Int32} {nv : Int} (ha : (decode cc x.handlerPc = .ok (.astore i, 2) ∧ len = 2) ∨ (∃ kf : Fin 4, (kf : Nat) = i ∧ decode cc x.handlerPc = .ok (.astore_n kf, 1) ∧ len = 1)) (hi : i < nL) (hv : Int32.ofInt nv = v) (d2 : decode cc (x.handlerPc + len) = .ok (.iconst nv, 1)) (d3 : decode cc (x.handlerPc + len + 1) = .ok (.ireturn, 1)) (hr : r = v) (hs9 : σ' = zMix o lay'.length σ σ1) : zV h ad lay nL G σ pc lv st := by
  obtain ⟨p, e, R, s, m, args, below, meth, c, Q, cells, slots⟩ := G
  obtain ⟨⟨hx, hb, hml, hown, hts⟩, hK, hI, hN, hZ, hlocks, hnt, hF, hL, hst9, hcs, hss⟩ := C
  subst hr; subst hs9
  obtain ⟨rfl, hret, hr1, hr2, rfl, rfl⟩ := hQ
  intro H locs ls hP hS hl
  have hRR : F' + 1 ≤ R.frames ∧ 8 + (maxL + 11) + L' ≤ R.locals := by rw [hF, hL]; exact hR
  have hP' := zPst_sub hs hP
  have hA : ∀ q, zA (zAo ad o) lay'.length H.size q → zA ad lay.length s.heap.size q := fun q hq => zA_sub hS.1 q (zA_so hs q hq)
  refine vx_callv (vx_runV (g := F0 m pc ls st) (rest := rest) (H := H) (cells := 0) (slots := 0) (locs := locs) (below := below) (meth := meth) (e := e) ⟨hx, hb, hml, hown, hts⟩ (hM H.size) (cwV n hts hT hw rfl rfl hd hRR) ⟨zPre_blind, hq ▸ va_recv hK hP' hc (zW_at hk), fun U hU hW9 => zPre_at2 hU hW9 hP' hK hN hZ hS hA⟩ rfl hn hl.1 hst (lv_room hW) hdg ⟨by omega, by omega⟩) hS (fun q _ h => hA q h) hA (fun q _ h => hA q h) (fun E ce q9 u t H1 locs1 ht hvm hpx hB hz hk1 hS1 hce hcv hcl => ?_) (fun u t H1 locs1 ht hvm hw hB hz hk1 hS1 => hw.elim)
  obtain ⟨rfl, hB2⟩ := hB
  have hP1 := zPst_back (σ1 := σ1) hs hI hP hk1 (by rw [← ht]; exact hB2)
  refine vx_catch hown pre x suf (by rw [hnt]; exact htb) (fun z hz => ?_) hcov h0 (hts _ hlink) (va_Nw.use rfl (hN.2.1 ex)) hce hcv hcl ?_
  · obtain ⟨h1, j, h2, h3⟩ := hpass z hz
    exact Or.inr ⟨h1, zEx j, hts _ h2, hN.2.2.2 ex j h3⟩
  have fin : ∀ ls' : Array Slot, lv_has ls' nL ((i, Value.ref q9) :: lv.filter (fun q => !(q.1 == i) && !(q.1 + 1 == i && q.2.category == 2))) → W p h.1 e R s m args below meth c H1 locs1 (0 + 1) (0 + 6) (MQ below (zQc h ad lay false (zA ad lay.length s.heap.size) r (zMix o lay'.length σ σ1)) args s 1 6 (zA ad lay.length s.heap.size)) (F0 m (x.handlerPc + len) ls' []) := by
    intro ls' hl'
    refine lv_iconst hx hb d2 hv ?_
    exact W.iret hx hb hret (fun t9 ht9 hW9 => ⟨⟨r, (), rfl, rfl, (ht9 ▸ hP1 : zPst h ad lay _ t9.heap)⟩, hS1.F ht9⟩) hS1.2.2 d3
  rcases ha with ⟨d1, rfl⟩ | ⟨kf, hkf, d1, rfl⟩
  · exact lv_astore hx hb d1 hl hi rfl fin
  · exact lv_astore_n hx hb d1 hkf hl hi rfl fin
/-! the law's own rows -/
def zGp (G : zG) : zG := match G with
  | (p, e, R, s, m, args, below, meth, c, Q, cells, slots) => (p, e, R, s, m, args, below, meth, c, Q, cells + 1, slots + 6)
def zRoom (G : zG) : Prop := match G with
  | (_, _, R, _, _, _, _, _, _, _, cells, slots) => cells + 1 ≤ R.cells ∧ slots + 6 ≤ R.slots
theorem zCT_p (C : zCT tb h ad lay nL G cc own Ts F L) (hr : zRoom G) : zCT tb h ad lay nL (zGp G) cc own Ts F L := by
  obtain ⟨p, e, R, s, m, args, below, meth, c, Q, cells, slots⟩ := G
  obtain ⟨h0, hK, hI, hN, hZ, hlocks, hnt, hF, hL, hst9, hcs, hss⟩ := C
  exact ⟨h0, hK, hI, hN, hZ, hlocks, hnt, hF, hL, hst9, hr.1, hr.2⟩
theorem z_lS (C : zCT tb h ad lay nL G cc own Ts F L) {y : MethodName} {ws ws' : List Cond} {bytes : ByteArray} {maxL : Nat} {ret : Option FieldType} {hh : List (Nat × Nat × Nat × Nat)} {index F' L' : Nat} {r : Int32} (n : Nat) (As : List Value) (rest : List Value) (hr : zRoom G) (hM : zMH h ad lay y ws F' L' As σ r σ1) (hT : GoodIn Ts (va_wsS own index y ws)) (hd : y.cls ≠ "java/lang/invoke/MethodHandle" ∧ y.cls ≠ "java/lang/invoke/VarHandle" ∧ (parseMethodDescriptor y.desc).map (fun d => d.parameters.length) = some n) (hst : st = As.reverse ++ rest) (hdg : decode cc pc = .ok (.invokestatic index, 3)) (hw : ws = Cond.codeWith y bytes maxL ret hh :: ws') (hR : F' + 1 ≤ F ∧ 8 + (maxL + 11) + L' ≤ L) (hn : As.length = n) (hW : (rest.map fun v => v.category).sum ≤ 8)
    (kk : zV h ad lay nL (zGp G) σ1 (pc + 3) lv (.int r :: rest)) : zV h ad lay nL G σ pc lv st := by
  obtain ⟨p, e, R, s, m, args, below, meth, c, Q, cells, slots⟩ := G
  obtain ⟨⟨hx, hb, hml, hown, hts⟩, hK, hI, hN, hZ, hlocks, hnt, hF, hL, hst9, hcs, hss⟩ := C
  intro H locs ls hP hS hl
  have hRR : F' + 1 ≤ R.frames ∧ 8 + (maxL + 11) + L' ≤ R.locals := by rw [hF, hL]; exact hR
  have hA : ∀ q, zA ad lay.length H.size q → zA ad lay.length s.heap.size q := zA_sub hS.1
  have hRun := vx_runSW (hh := hh) (g := F0 m pc ls st) (rest := rest) (H := H) (cells := cells) (slots := slots) (locs := locs) (below := below) (meth := meth) (e := e) ⟨hx, hb, hml, hown, hts⟩ (hM H.size) (vx_cwSW n hts hT hw rfl rfl hd hRR) ⟨zPre_blind, fun U hU hW9 => zPre_at hU hW9 hP hK hN hZ hS⟩ rfl hn hl.1 hst (lv_room hW) hdg hr
  exact va_calli (a := #[]) hRun hS (fun q _ h => hA q h) hA (fun r9 u t H1 locs1 ht hvm hw hB hz hk1 hS1 => by subst hw; exact kk H1 locs1 ls (by rw [← ht]; exact hB) hS1 hl)
def zScr (ad : Nat → Nat) (lay : List zK) (G : zG) (b N : Nat) (xs : Nat → Int32) : Prop := match G with
  | (_, _, _, s, _) => va_X b N xs s s.heap ∧ b < s.heap.size ∧ ¬ zA ad lay.length s.heap.size b
theorem zScr_p {b N : Nat} {xs : Nat → Int32} (X : zScr ad lay G b N xs) : zScr ad lay (zGp G) b N xs := by
  obtain ⟨p, e, R, s, m, args, below, meth, c, Q, cells, slots⟩ := G
  exact X
theorem z_sld (C : zCT tb h ad lay nL G cc own Ts F L) {b N : Nat} {xs : Nat → Int32} (X : zScr ad lay G b N xs) {i v : Int32} (hin : vp_in i N) (hv : v = xs i.toNatClampNeg) (hdg : decode cc pc = .ok (.iaload, 1))
    (kk : zV h ad lay nL G σ (pc + 1) lv (.int v :: st)) : zV h ad lay nL G σ pc lv (.int i :: .ref b :: st) := by
  obtain ⟨p, e, R, s, m, args, below, meth, c, Q, cells, slots⟩ := G
  obtain ⟨⟨hx, hb, hml, hown, hts⟩, hK, hI, hN, hZ, hlocks, hnt, hF, hL, hst9, hcs, hss⟩ := C
  obtain ⟨hX, hbl, hbA⟩ := X
  subst hv
  exact fun H locs ls hP hS hl => va_sld hx hb hX hbl hbA hS hin hdg (kk H locs ls hP hS hl)
theorem z_slen (C : zCT tb h ad lay nL G cc own Ts F L) {b N : Nat} {xs : Nat → Int32} (X : zScr ad lay G b N xs) (hdg : decode cc pc = .ok (.arraylength, 1))
    (kk : zV h ad lay nL G σ (pc + 1) lv (.int (Int32.ofNat N) :: st)) : zV h ad lay nL G σ pc lv (.ref b :: st) := by
  obtain ⟨p, e, R, s, m, args, below, meth, c, Q, cells, slots⟩ := G
  obtain ⟨⟨hx, hb, hml, hown, hts⟩, hK, hI, hN, hZ, hlocks, hnt, hF, hL, hst9, hcs, hss⟩ := C
  obtain ⟨hX, hbl, hbA⟩ := X
  exact fun H locs ls hP hS hl => va_slen hx hb hX hbl hbA hS hdg (kk H locs ls hP hS hl)
theorem z_lald (C : zCT tb h ad lay nL G cc own Ts F L) {k n : Nat} {i v : Int32} (hk : lay[k]? = some (.inl (2, n))) (hin : vp_in i n) (hv : v = σ k i.toNatClampNeg) (hdg : decode cc pc = .ok (.laload, 1))
    (kk : zV h ad lay nL G σ (pc + 1) lv (.long v.toInt64 :: st)) : zV h ad lay nL G σ pc lv (.int i :: .ref (ad k) :: st) := by
  obtain ⟨p, e, R, s, m, args, below, meth, c, Q, cells, slots⟩ := G
  obtain ⟨⟨hx, hb, hml, hown, hts⟩, hK, hI, hN, hZ, hlocks, hnt, hF, hL, hst9, hcs, hss⟩ := C
  subst hv
  exact fun H locs ls hP hS hl => va_lald (D := (h.2.1, h.2.2.1)) hx hb hK hP k 2 (zW_at hk) rfl hin hdg (kk H locs ls hP hS hl)
theorem z_last (C : zCT tb h ad lay nL G cc own Ts F L) {k n : Nat} {i x : Int32} {y : Int64} (hy : y = x.toInt64) (hk : lay[k]? = some (.inl (2, n))) (hin : vp_in i n) (he : σ1 = zU σ k i.toNatClampNeg x) (hdg : decode cc pc = .ok (.lastore, 1))
    (kk : zV h ad lay nL G σ1 (pc + 1) lv st) : zV h ad lay nL G σ pc lv (.long y :: .int i :: .ref (ad k) :: st) := by
  obtain ⟨p, e, R, s, m, args, below, meth, c, Q, cells, slots⟩ := G
  obtain ⟨⟨hx, hb, hml, hown, hts⟩, hK, hI, hN, hZ, hlocks, hnt, hF, hL, hst9, hcs, hss⟩ := C
  subst he; subst hy
  have e9 : vp_updL (fun j => (σ k j).toInt64) i.toNatClampNeg x.toInt64 = fun j => (upd (σ k) i.toNatClampNeg x j).toInt64 := by
    funext j
    simp only [vp_updL, upd]
    split <;> rfl
  exact fun H locs ls hP hS hl => va_last (D := (h.2.1, h.2.2.1)) hx hb hK hP (zD_of σ hI) hS k 2 (zW_at hk) rfl hin hdg (fun H1 locs1 hP1 _ hS1 => kk H1 locs1 ls (by
    rw [e9, zW_set (σ' := zU σ k i.toNatClampNeg x) hk (by rw [zU_s]; rfl) zU_o] at hP1; exact hP1) hS1 hl)
theorem z_lcmp (C : zCT tb h ad lay nL G cc own Ts F L) {x y : Int64} (hdg : decode cc pc = .ok (.lcmp, 1))
    (kk : zV h ad lay nL G σ (pc + 1) lv (.int (lg_cmp x y) :: st)) : zV h ad lay nL G σ pc lv (.long y :: .long x :: st) := by
  obtain ⟨p, e, R, s, m, args, below, meth, c, Q, cells, slots⟩ := G
  obtain ⟨⟨hx, hb, hml, hown, hts⟩, hK, hI, hN, hZ, hlocks, hnt, hF, hL, hst9, hcs, hss⟩ := C
  exact fun H locs ls hP hS hl => W.lcmp hx hb hdg (kk H locs ls hP hS hl)
end ZS2
end
section
section ZCN
/-! constructors: the layout grows -/
def zAd (l : List Nat) : Nat → Nat := fun i => l.getD i 0
def z0 : zS := fun _ _ => 0
def zKo (n : Nat) (kd : zK) : Bool := match kd with
  | .inl _ => true
  | .inr q => q.2.all (fun f => decide (f < n + 2))
def zOK (lay : List zK) : Bool := lay.all (zKo lay.length)
variable {h : zH} {ad ad' ad0 : Nat → Nat} {lay lay' lay0 : List zK} {nL : Nat} {G : zG} {A : Nat → Prop} {cc : ByteArray} {own : String} {Ts : List Cond} {F L Cc Cs cells slots : Nat} {σ σ1 σ' : zS} {pc : Nat} {lv lv' : List (Nat × Value)} {st rest : List Value}
theorem zF_ext {n : Nat} {f : Nat → Int32} {i x : Nat} (hx : x < n + 2) (ha : ∀ r, r < n → ad' r = ad r) : zF ad' f i x = zF ad f i x := by
  rcases x with _ | _ | x
  · rfl
  · rfl
  · exact congrArg Value.ref (ha x (by omega))
theorem zE_ext {cA : Nat → ClassId} {f : Nat → Int32} {kd : zK} {n : Nat} (hok : zKo n kd = true) (ha : ∀ r, r < n → ad' r = ad r) : zE cA ad' f kd = zE cA ad f kd := by
  rcases kd with ⟨z, m⟩ | ⟨ci, fs⟩
  · rcases z with _ | _ | _ | z <;> rfl
  · show (Sum.inr (ci, fs.mapIdx (zF ad' f)) : va_E) = Sum.inr (ci, fs.mapIdx (zF ad f))
    congr 2
    apply List.ext_getElem?
    intro i
    simp only [List.getElem?_mapIdx]
    cases hx : fs[i]? with
    | none => rfl
    | some x => exact congrArg some (zF_ext (of_decide_eq_true (List.all_eq_true.mp hok x (List.mem_of_getElem? hx))) ha)
theorem zPst_ext {H : Heap} (hok : zOK lay = true) (ha : ∀ r, r < lay.length → ad' r = ad r) (hP : zPst h ad lay σ H) : zPst h ad' lay σ H := by
  intro k q hq
  obtain ⟨kd, hk, rfl⟩ := zW_is hq
  have hl := (List.getElem?_eq_some_iff.mp hk).1
  have h3 := hP k _ (zW_at hk)
  rw [ha k hl, zE_ext (List.all_eq_true.mp hok kd (List.mem_of_getElem? hk)) ha]
  exact h3
theorem zPst_push {H : Heap} {kd : zK} {q : Nat} {e : va_E} (hok : zOK lay = true) (ha : ∀ r, r < lay.length → ad' r = ad r) (hq : ad' lay.length = q) (he : e = zE h.2.2.2 ad' (σ lay.length) kd) (hP : va_P (h.2.1, h.2.2.1) vwCl (zW h.2.2.2 ad lay σ ++ [(q, e)]) H) : zPst h ad' (lay ++ [kd]) σ H := by
  have hln : (zW h.2.2.2 ad lay σ).length = lay.length := by simp [zW]
  have h1 : zPst h ad lay σ H := fun k x hx => hP k x (by
    rw [List.getElem?_append_left (List.getElem?_eq_some_iff.mp hx).1]; exact hx)
  have h2 := zPst_ext hok ha h1
  intro k x hx
  obtain ⟨kd', hk, rfl⟩ := zW_is hx
  by_cases hl : k < lay.length
  · rw [List.getElem?_append_left hl] at hk
    exact h2 k _ (zW_at hk)
  · have hl2 := (List.getElem?_eq_some_iff.mp hk).1
    rw [List.length_append, List.length_singleton] at hl2
    have hk0 : k = lay.length := by omega
    subst hk0
    rw [List.getElem?_append_right (Nat.le_refl _), Nat.sub_self] at hk
    cases hk
    have h3 := hP lay.length (q, e) (by rw [List.getElem?_append_right (by omega), hln, Nat.sub_self]; rfl)
    rw [hq, ← he]
    exact h3
def zCc (h : zH) (nL : Nat) (G : zG) (A : Nat → Prop) (cc : ByteArray) (own : String) (Ts : List Cond) (F L Cc Cs : Nat) : Prop := match G with
  | (p, _, R, s, m, args, _, meth, c, _, _, _) => (p.tables.exec = Jvm.exec ∧ c.code = cc ∧ c.maxLocals = nL ∧ s.vm.findClass own = some m.cls ∧ (∀ w ∈ Ts, w.before args s = true)) ∧ va_K (h.2.1, h.2.2.1) vwCl (zT h.2.2.2) s ∧ (∀ q, s.heap.size ≤ q → A q) ∧ R.frames = F ∧ R.locals = L ∧ R.cells = Cc ∧ R.slots = Cs ∧ zHN s ∧ zHS A s s.heap
def zVc (h : zH) (nL : Nat) (G : zG) (A : Nat → Prop) (ad : Nat → Nat) (lay : List zK) (σ : zS) (cells slots : Nat) (pc : Nat) (lv : List (Nat × Value)) (st : List Value) : Prop := match G with
  | (p, e, R, s, m, args, below, meth, c, Q, _, _) => zI ad lay.length → (∀ i, i < lay.length → A (ad i)) → ∀ (H : Heap) (locs : List Loc) (ls : Array Slot), zPst h ad lay σ H → va_S A s.heap H locs → lv_has ls nL lv → W p h.1 e R s m args below meth c H locs cells slots Q (F0 m pc ls st)
theorem zDA (σ : zS) {cA : Nat → ClassId} (hI : zI ad lay.length) (hA : ∀ i, i < lay.length → A (ad i)) : va_D A (zW cA ad lay σ) := by
  refine ⟨fun i j p q hp hq hpq => ?_, fun k q hq => ?_⟩
  · obtain ⟨h1, h2⟩ := zW_key hp
    obtain ⟨h3, h4⟩ := zW_key hq
    exact hI i j h1 h3 (by rw [← h2, ← h4]; exact hpq)
  · obtain ⟨h1, h2⟩ := zW_key hq
    rw [h2]; exact hA k h1
/-- the same addresses under another name -/
theorem n_ad (l : List Nat) (hok : zOK lay = true) (ha : ∀ r, r < lay.length → zAd l r = ad r) (k : zVc h nL G A (zAd l) lay σ cells slots pc lv st) : zVc h nL G A ad lay σ cells slots pc lv st := by
  obtain ⟨p, e, R, s, m, args, below, meth, c, Q, c0, s0⟩ := G
  intro hI hAi H locs ls hP hS hl
  exact k (fun i j hi hj e9 => hI i j hi hj (by rw [← ha i hi, ← ha j hj]; exact e9)) (fun i hi => by rw [ha i hi]; exact hAi i hi) H locs ls (zPst_ext hok ha hP) hS hl
theorem n_sub (ks : List Nat) (hl : lv_pick lv ks = lv') (k : zVc h nL G A ad lay σ cells slots pc lv' st) : zVc h nL G A ad lay σ cells slots pc lv st := by
  obtain ⟨p, e, R, s, m, args, below, meth, c, Q, c0, s0⟩ := G
  exact fun hI hAi H locs ls hP hS hl9 => k hI hAi H locs ls hP hS (lv_sub hl9 ks hl)
theorem n_aload_n (C : zCc h nL G A cc own Ts F L Cc Cs) {kk : Fin 4} {i x : Nat} (hdg : decode cc pc = .ok (.aload_n kk, 1)) (hi : (kk : Nat) = i) (j : Nat) (hj : lv[j]? = some (i, .ref x)) (k : zVc h nL G A ad lay σ cells slots (pc + 1) lv (.ref x :: st)) : zVc h nL G A ad lay σ cells slots pc lv st := by
  obtain ⟨p, e, R, s, m, args, below, meth, c, Q, c0, s0⟩ := G
  exact fun hI hAi H locs ls hP hS hl => lv_aload_n C.1.1 C.1.2.1 hdg hi (lv_at hl j hj) (k hI hAi H locs ls hP hS hl)
theorem n_aload (C : zCc h nL G A cc own Ts F L Cc Cs) {i x : Nat} (hdg : decode cc pc = .ok (.aload i, 2)) (j : Nat) (hj : lv[j]? = some (i, .ref x)) (k : zVc h nL G A ad lay σ cells slots (pc + 2) lv (.ref x :: st)) : zVc h nL G A ad lay σ cells slots pc lv st := by
  obtain ⟨p, e, R, s, m, args, below, meth, c, Q, c0, s0⟩ := G
  exact fun hI hAi H locs ls hP hS hl => lv_aload C.1.1 C.1.2.1 hdg (lv_at hl j hj) (k hI hAi H locs ls hP hS hl)
theorem n_iconst (C : zCc h nL G A cc own Ts F L Cc Cs) {n : Int} {v : Int32} (hdg : decode cc pc = .ok (.iconst n, 1)) (hv : Int32.ofInt n = v) (k : zVc h nL G A ad lay σ cells slots (pc + 1) lv (.int v :: st)) : zVc h nL G A ad lay σ cells slots pc lv st := by
  obtain ⟨p, e, R, s, m, args, below, meth, c, Q, c0, s0⟩ := G
  exact fun hI hAi H locs ls hP hS hl => lv_iconst C.1.1 C.1.2.1 hdg hv (k hI hAi H locs ls hP hS hl)
theorem n_bipush (C : zCc h nL G A cc own Ts F L Cc Cs) {n : Int} {v : Int32} (hdg : decode cc pc = .ok (.bipush n, 2)) (hv : (Int8.ofInt n).toInt32 = v) (k : zVc h nL G A ad lay σ cells slots (pc + 2) lv (.int v :: st)) : zVc h nL G A ad lay σ cells slots pc lv st := by
  obtain ⟨p, e, R, s, m, args, below, meth, c, Q, c0, s0⟩ := G
  exact fun hI hAi H locs ls hP hS hl => lv_bipush C.1.1 C.1.2.1 hdg hv (k hI hAi H locs ls hP hS hl)
theorem n_dup (C : zCc h nL G A cc own Ts F L Cc Cs) {v : Value} (hdg : decode cc pc = .ok (.dup, 1)) (hv : v.category = 1) (k : zVc h nL G A ad lay σ cells slots (pc + 1) lv (v :: v :: st)) : zVc h nL G A ad lay σ cells slots pc lv (v :: st) := by
  obtain ⟨p, e, R, s, m, args, below, meth, c, Q, c0, s0⟩ := G
  exact fun hI hAi H locs ls hP hS hl => lv_dup C.1.1 C.1.2.1 hdg hv (k hI hAi H locs ls hP hS hl)
theorem n_pop (C : zCc h nL G A cc own Ts F L Cc Cs) {v : Value} (hdg : decode cc pc = .ok (.pop, 1)) (hv : v.category = 1) (k : zVc h nL G A ad lay σ cells slots (pc + 1) lv st) : zVc h nL G A ad lay σ cells slots pc lv (v :: st) := by
  obtain ⟨p, e, R, s, m, args, below, meth, c, Q, c0, s0⟩ := G
  exact fun hI hAi H locs ls hP hS hl => lv_pop C.1.1 C.1.2.1 hdg hv (k hI hAi H locs ls hP hS hl)
theorem n_astore_n (C : zCc h nL G A cc own Ts F L Cc Cs) {kk : Fin 4} {i x : Nat} (hdg : decode cc pc = .ok (.astore_n kk, 1)) (hi : (kk : Nat) = i) (hn : i < nL) (hl9 : (i, Value.ref x) :: lv.filter (fun q => !(q.1 == i) && !(q.1 + 1 == i && q.2.category == 2)) = lv') (k : zVc h nL G A ad lay σ cells slots (pc + 1) lv' st) : zVc h nL G A ad lay σ cells slots pc lv (.ref x :: st) := by
  obtain ⟨p, e, R, s, m, args, below, meth, c, Q, c0, s0⟩ := G
  exact fun hI hAi H locs ls hP hS hl => lv_astore_n C.1.1 C.1.2.1 hdg hi hl hn hl9 (fun ls hl => k hI hAi H locs ls hP hS hl)
theorem n_istore (C : zCc h nL G A cc own Ts F L Cc Cs) {i : Nat} {x : Int32} (hdg : decode cc pc = .ok (.istore i, 2)) (hn : i < nL) (hl9 : (i, Value.int x) :: lv.filter (fun q => !(q.1 == i) && !(q.1 + 1 == i && q.2.category == 2)) = lv') (k : zVc h nL G A ad lay σ cells slots (pc + 2) lv' st) : zVc h nL G A ad lay σ cells slots pc lv (.int x :: st) := by
  obtain ⟨p, e, R, s, m, args, below, meth, c, Q, c0, s0⟩ := G
  exact fun hI hAi H locs ls hP hS hl => lv_istore C.1.1 C.1.2.1 hdg hl hn hl9 (fun ls hl => k hI hAi H locs ls hP hS hl)
/-- Object's constructor -/
theorem n_obj (C : zCc h nL G A cc own Ts F L Cc Cs) {i a : Nat} (h1 : Cond.methodLink own i Lib.objectInit ∈ Ts) (h2 : Cond.instanceMethod Lib.objectInit ∈ Ts) (h3 : Cond.code Lib.objectInit ⟨#[0xb1]⟩ 1 none ∈ Ts) (hd : decode cc pc = .ok (.invokespecial i, 3)) (hf : 1 ≤ F) (hL9 : (rest.map fun v => v.category).sum + 12 ≤ L) (k : zVc h nL G A ad lay σ cells slots (pc + 3) lv rest) : zVc h nL G A ad lay σ cells slots pc lv (.ref a :: rest) := by
  obtain ⟨p, e, R, s, m, args, below, meth, c, Q, c0, s0⟩ := G
  obtain ⟨⟨hx, hb, hml, hown, hts⟩, hK, hAA, hF, hL, hCc, hCs, hN, hZ⟩ := C
  exact fun hI hAi H locs ls hP hS hl => W.objInit hx hb hown (hts _ h1) (hts _ h2) (hts _ h3) rfl (hl.1.trans hml.symm) rfl hd (by rw [hF]; exact hf) (by rw [hL]; show 2 * 0 + _ + 12 ≤ L; omega) (k hI hAi H locs ls hP hS hl)
theorem n_getr (C : zCc h nL G A cc own Ts F L Cc Cs) {k ci r b q9 : Nat} {fs : List Nat} {Cn : String} {T : u_T} {N i : Nat} (hk : lay[k]? = some (.inr (ci, fs))) (hc : vwCl[ci]? = some (Cn, T, N)) (hin : ∀ w ∈ u_ws Cn T N, w ∈ Ts) (j : Nat) (hj : j < N) (hf : fs[j]? = some (r + 2)) (hlink : Cond.fieldLink own i Cn (T j).2.1 (T j).2.2.1 ∈ Ts) (hcl : (T j).1 = Cn) (hb9 : ad k = b) (hr9 : ad r = q9) (hdg : decode cc pc = .ok (.getfield i, 3))
    (kk : zVc h nL G A ad lay σ cells slots (pc + 3) lv (.ref q9 :: st)) : zVc h nL G A ad lay σ cells slots pc lv (.ref b :: st) := by
  obtain ⟨p, e, R, s, m, args, below, meth, c, Q, c0, s0⟩ := G
  obtain ⟨⟨hx, hb, hml, hown, hts⟩, hK, hAA, hF, hL, hCc, hCs, hN, hZ⟩ := C
  subst hb9; subst hr9
  exact fun hI hAi H locs ls hP hS hl => va_get (D := (h.2.1, h.2.2.1)) (ref := Cn) hx hb hts hin hown hK hP k (zW_at hk) hc j hj (hts _ hlink) (fun x hx => by rw [hcl] at hx; exact hx) (zE_get (cA := h.2.2.2) hf) hdg (kk hI hAi H locs ls hP hS hl)
theorem zW_setr {cA : Nat → ClassId} {k ci j r : Nat} {fs : List Nat} (hk : lay[k]? = some (.inr (ci, fs))) (hj : j < fs.length) : (zW cA ad lay σ).set k (ad k, .inr (ci, (fs.mapIdx (zF ad (σ k))).set j (.ref (ad r)))) = zW cA ad (lay.set k (.inr (ci, fs.set j (r + 2)))) σ := by
  apply List.ext_getElem?
  intro i
  have hkl := (List.getElem?_eq_some_iff.mp hk).1
  by_cases hi : i = k
  · subst hi
    have hl : i < (zW cA ad lay σ).length := (List.getElem?_eq_some_iff.mp (zW_at hk)).1
    rw [List.getElem?_set_self hl, zW_at (kd := .inr (ci, fs.set j (r + 2))) (by rw [List.getElem?_set_self hkl])]
    show some (ad i, (Sum.inr (ci, _) : va_E)) = some (ad i, Sum.inr (ci, _))
    congr 3
    congr 1
    apply List.ext_getElem?
    intro a
    by_cases ha : a = j
    · subst ha
      rw [List.getElem?_set_self (by simpa using hj)]
      simp only [List.getElem?_mapIdx, List.getElem?_set_self hj]
      rfl
    · rw [List.getElem?_set_ne (Ne.symm ha)]
      simp only [List.getElem?_mapIdx, List.getElem?_set_ne (Ne.symm ha)]
  · rw [List.getElem?_set_ne (Ne.symm hi)]
    simp only [zW, List.getElem?_mapIdx, List.getElem?_set_ne (Ne.symm hi)]
/-- a final field gets its reference -/
theorem n_putr (C : zCc h nL G A cc own Ts F L Cc Cs) (hin2 : G.2.2.2.2.2.2.2.1.name = "<init>") {k ci r b q9 : Nat} {fs : List Nat} {Cn : String} {T : u_T} {N i : Nat} {ty0 : Nat → FieldType} {ty : FieldType} (hk : lay[k]? = some (.inr (ci, fs))) (hc : vwCl[ci]? = some (Cn, T, N)) (hin : ∀ w ∈ u_ws Cn T N, w ∈ Ts) (hty : ∀ k, k < N → parseFieldDescriptor (T k).2.2.1 = some (ty0 k)) (hnm : ∀ a, a < N → ∀ b, b < N → a ≠ b → (T a).2.1 ≠ (T b).2.1) (j : Nat) (hj : j < N) (hfl : j < fs.length) (hlink : Cond.fieldLink own i Cn (T j).2.1 (T j).2.2.1 ∈ Ts) (hcl : (T j).1 = Cn) (hdecl : (T j).1 = own) (hfin : (T j).2.2.2 = true) (hd : parseFieldDescriptor (T j).2.2.1 = some ty) (hnw : narrow ty (.ref (ad r)) = .ref (ad r)) (hft : fits ty (.ref (ad r)) = true) (hb9 : ad k = b) (hr9 : ad r = q9) (hlay : lay.set k (.inr (ci, fs.set j (r + 2))) = lay') (hdg : decode cc pc = .ok (.putfield i, 3))
    (kk : zVc h nL G A ad lay' σ cells slots (pc + 3) lv st) : zVc h nL G A ad lay σ cells slots pc lv (.ref q9 :: .ref b :: st) := by
  obtain ⟨p, e, R, s, m, args, below, meth, c, Q, c0, s0⟩ := G
  obtain ⟨⟨hx, hb, hml, hown, hts⟩, hK, hAA, hF, hL, hCc, hCs, hN, hZ⟩ := C
  subst hb9; subst hr9; subst hlay
  intro hI hAi H locs ls hP hS hl
  exact va_putF (D := (h.2.1, h.2.2.1)) (ref := Cn) (ty := ty) hx hb hts hin ty0 hty hnm hown hK hP (zDA σ hI hAi) hS k (zW_at hk) hc j hj (hts _ hlink) (fun x hx => by rw [hcl] at hx; exact hx) hfin hin2 hdecl hd hnw hft (by simpa using hfl) hdg (fun H1 locs1 hP1 _ hS1 => kk (by rw [List.length_set]; exact hI) (by rw [List.length_set]; exact hAi) H1 locs1 ls (by
    rw [zW_setr hk hfl] at hP1; exact hP1) hS1 hl)
/-- a field that isn't final gets its number -/
theorem n_put (C : zCc h nL G A cc own Ts F L Cc Cs) {k ci b : Nat} {fs : List Nat} {Cn : String} {T : u_T} {N i : Nat} {ty0 : Nat → FieldType} (hk : lay[k]? = some (.inr (ci, fs))) (hc : vwCl[ci]? = some (Cn, T, N)) (hin : ∀ w ∈ u_ws Cn T N, w ∈ Ts) (hty : ∀ k, k < N → parseFieldDescriptor (T k).2.2.1 = some (ty0 k)) (hnm : ∀ a, a < N → ∀ b, b < N → a ≠ b → (T a).2.1 ≠ (T b).2.1) (j : Nat) (hj : j < N) (hf : fs[j]? = some 0) (hlink : Cond.fieldLink own i Cn (T j).2.1 (T j).2.2.1 ∈ Ts) (hcl : (T j).1 = Cn) (hfin : (T j).2.2.2 = false) (hd : (T j).2.2.1 = "I") {v : Int32} (hb9 : ad k = b) (hdg : decode cc pc = .ok (.putfield i, 3))
    (kk : zVc h nL G A ad lay (zU σ k j v) cells slots (pc + 3) lv st) : zVc h nL G A ad lay σ cells slots pc lv (.int v :: .ref b :: st) := by
  obtain ⟨p, e, R, s, m, args, below, meth, c, Q, c0, s0⟩ := G
  obtain ⟨⟨hx, hb, hml, hown, hts⟩, hK, hAA, hF, hL, hCc, hCs, hN, hZ⟩ := C
  subst hb9
  have hjl : j < fs.length := (List.getElem?_eq_some_iff.mp hf).1
  intro hI hAi H locs ls hP hS hl
  exact va_put (D := (h.2.1, h.2.2.1)) (ref := Cn) (ty := .int) hx hb hts hin ty0 hty hnm hown hK hP (zDA σ hI hAi) hS k (zW_at hk) hc j hj (hts _ hlink) (fun x hx => by rw [hcl] at hx; exact hx) hfin (by rw [hd]; decide +kernel) rfl rfl (by simpa using hjl) hdg (fun H1 locs1 hP1 _ hS1 => kk hI hAi H1 locs1 ls (by
    rw [zF_set hf, zW_set (σ' := zU σ k j v) hk (by rw [zU_s]; rfl) zU_o] at hP1; exact hP1) hS1 hl)
/-- what a new cell adds: its place is the list's next -/
theorem zGrow {q : Nat} {l : List Nat} (hlen : l.length = lay.length) {kd : zK} : (zAd (l ++ [q]) lay.length = q) ∧ (∀ r, r < lay.length → zAd (l ++ [q]) r = zAd l r) ∧ (zI (zAd l) lay.length → (∀ i, i < lay.length → zAd l i ≠ q) → zI (zAd (l ++ [q])) (lay ++ [kd]).length) ∧ ((∀ i, i < lay.length → A (zAd l i)) → A q → ∀ i, i < (lay ++ [kd]).length → A (zAd (l ++ [q]) i)) := by
  have e1 : zAd (l ++ [q]) lay.length = q := by simp [zAd, ← hlen]
  have e2 : ∀ r, r < lay.length → zAd (l ++ [q]) r = zAd l r := fun r hr => by
    simp [zAd, List.getElem?_append_left (show r < l.length by omega)]
  refine ⟨e1, e2, fun hI hne i j hi hj e => ?_, fun hAi hq i hi => ?_⟩
  · simp only [List.length_append, List.length_singleton] at hi hj
    rcases Nat.lt_or_ge i lay.length with a | a <;> rcases Nat.lt_or_ge j lay.length with b | b
    · rw [e2 i a, e2 j b] at e; exact hI i j a b e
    · rw [show j = lay.length by omega, e1, e2 i a] at e; exact absurd e (hne i a)
    · rw [show i = lay.length by omega, e1, e2 j b] at e; exact absurd e.symm (hne j b)
    · omega
  · simp only [List.length_append, List.length_singleton] at hi
    rcases Nat.lt_or_ge i lay.length with a | a
    · rw [e2 i a]; exact hAi i a
    · rw [show i = lay.length by omega, e1]; exact hq
theorem zW_ne {cA : Nat → ClassId} {q : Nat} {e : va_E} (hD : va_D A (zW cA ad lay σ ++ [(q, e)])) : A q ∧ ∀ i, i < lay.length → ad i ≠ q := by
  have hln : (zW cA ad lay σ).length = lay.length := by simp [zW]
  have hlast : (zW cA ad lay σ ++ [(q, e)])[lay.length]? = some (q, e) := by
    rw [List.getElem?_append_right (by omega), hln, Nat.sub_self]; rfl
  refine ⟨hD.2 lay.length (q, e) hlast, fun i hi h9 => ?_⟩
  have h1 : (zW cA ad lay σ ++ [(q, e)])[i]? = some (ad i, zE cA ad (σ i) lay[i]) := by
    rw [List.getElem?_append_left (by omega)]
    exact zW_at (List.getElem?_eq_getElem hi)
  have := hD.1 i lay.length _ _ h1 hlast h9
  omega
theorem n_new (C : zCc h nL G A cc own Ts F L Cc Cs) {l ds : List Nat} {Cn : String} {T : u_T} {N ci i : Nat} {ty0 : Nat → FieldType} (hlen : l.length = lay.length) (hok : zOK lay = true) (hc : vwCl[ci]? = some (Cn, T, N)) (hin : ∀ w ∈ u_ws Cn T N, w ∈ Ts) (hty : ∀ k, k < N → parseFieldDescriptor (T k).2.2.1 = some (ty0 k)) (h1 : Cond.classLink own i Cn ∈ Ts) (h2 : Cond.instantiable Cn N ∈ Ts) (h3 : Cond.initialized Cn ∈ Ts) (hds : ∀ j, j < N → defaultValue (ty0 j) = vp_V (ds.mapIdx (zF (fun _ => 0) (fun _ => 0))) j) (hd2 : ds.all (fun f => decide (f < 2)) = true) (hσ : σ lay.length = fun _ => 0) (hcs : cells + 1 ≤ Cc ∧ slots + N ≤ Cs) (hdg : decode cc pc = .ok (.new i, 3))
    (kk : ∀ q : Nat, zVc h nL G A (zAd (l ++ [q])) (lay ++ [.inr (ci, ds)]) σ (cells + 1) (slots + N) (pc + 3) lv (.ref q :: st)) : zVc h nL G A (zAd l) lay σ cells slots pc lv st := by
  obtain ⟨p, e, R, s, m, args, below, meth, c, Q, c0, s0⟩ := G
  obtain ⟨⟨hx, hb, hml, hown, hts⟩, hK, hAA, hF, hL, hCc, hCs, hN, hZ⟩ := C
  intro hI hAi H locs ls hP hS hl
  refine va_new (D := (h.2.1, h.2.2.1)) (fs := ds.mapIdx (zF (fun _ => 0) (fun _ => 0))) hx hb hts hin ty0 hty hown (hts _ h1) (hts _ h2) (hts _ h3) hK hP (zDA σ hI hAi) hS hAA hc hds (by rw [hCc]; exact hcs.1) (by rw [hCs]; exact hcs.2) hdg (fun q H1 hP1 hD1 hS1 => ?_)
  obtain ⟨hq, hne⟩ := zW_ne hD1
  obtain ⟨g1, g2, g3, g4⟩ := zGrow (A := A) (q := q) (kd := .inr (ci, ds)) hlen
  refine kk q (g3 hI hne) (g4 hAi hq) H1 locs ls (zPst_push hok g2 g1 ?_ hP1) hS1 hl
  show (Sum.inr (ci, _) : va_E) = Sum.inr (ci, ds.mapIdx (zF (zAd (l ++ [q])) (σ lay.length)))
  congr 2
  apply List.ext_getElem?
  intro a
  simp only [List.getElem?_mapIdx]
  cases hx9 : ds[a]? with
  | none => rfl
  | some x =>
    have hx2 : x < 2 := of_decide_eq_true (List.all_eq_true.mp hd2 x (List.mem_of_getElem? hx9))
    rw [hσ]
    rcases x with _ | _ | x
    · rfl
    · rfl
    · omega
theorem n_newa (C : zCc h nL G A cc own Ts F L Cc Cs) {l : List Nat} {z : Nat} {N' : Nat} {atype : ArrayType} {ty : FieldType} {n : Int32} {a0 : vp_A} (hlen : l.length = lay.length) (hok : zOK lay = true) (harr : Cond.arrayClass (newarray.typeOf atype) ∈ Ts) (hty : newarray.typeOf atype = ty) (hz : (zT h.2.2.2)[z]? = some (h.2.2.2 z, ty)) (hra : ∀ (U : State) (cA : ClassId), va_RA U cA ty → U.vm.findClass ("[" ++ ty.toString) = some cA) (ha : ∀ cA : ClassId, vp_cell cA a0 = arrV cA N' (fun _ => defaultValue ty)) (he : zE h.2.2.2 (fun _ => 0) (fun _ => 0) (.inl (z, N')) = .inl (h.2.2.2 z, a0)) (hn : ¬ n < 0) (hN : n.toNatClampNeg = N') (hbytes : N' * componentBytes ty ≤ 536870912) (hσ : σ lay.length = fun _ => 0) (hcs : cells + 1 ≤ Cc ∧ slots + N' ≤ Cs) (hdg : decode cc pc = .ok (.newarray atype, 2))
    (kk : ∀ q : Nat, zVc h nL G A (zAd (l ++ [q])) (lay ++ [.inl (z, N')]) σ (cells + 1) (slots + N') (pc + 2) lv (.ref q :: st)) : zVc h nL G A (zAd l) lay σ cells slots pc lv (.int n :: st) := by
  obtain ⟨p, e, R, s, m, args, below, meth, c, Q, c0, s0⟩ := G
  obtain ⟨⟨hx, hb, hml, hown, hts⟩, hK, hAA, hF, hL, hCc, hCs, hN9, hZ⟩ := C
  intro hI hAi H locs ls hP hS hl
  refine va_newa (atype := atype) (D := (h.2.1, h.2.2.1)) (tys := zT h.2.2.2) (a0 := a0) hx hb (hts _ harr) hty hK hP (zDA σ hI hAi) hS hAA ha hn hN hbytes (by rw [hCc]; exact hcs.1) (by rw [hCs]; exact hcs.2) hdg (fun q cA H1 hK1 hP1 hD1 hS1 => ?_)
  have f1 := hra s _ (hK.2 z _ hz).2
  have f2 := hra s cA (hK1.2 (zT h.2.2.2).length (cA, ty) (by rw [List.getElem?_append_right (Nat.le_refl _), Nat.sub_self]; rfl)).2
  have f3 : cA = h.2.2.2 z := Option.some.inj (f2.symm.trans f1)
  subst f3
  obtain ⟨hq, hne⟩ := zW_ne hD1
  obtain ⟨g1, g2, g3, g4⟩ := zGrow (A := A) (q := q) (kd := .inl (z, N')) hlen
  refine kk q (g3 hI hne) (g4 hAi hq) H1 locs ls (zPst_push hok g2 g1 ?_ hP1) hS1 hl
  rw [hσ, ← he]
  rcases z with _ | _ | _ | z <;> rfl
/-- a constructor's contract: from one layout to a longer one -/
def zKP (ad ad' : Nat → Nat) (n0 n1 sz : Nat) : Prop := (∀ i, i < n0 → ad' i = ad i) ∧ zI ad' n1 ∧ ∀ i, n0 ≤ i → i < n1 → sz ≤ ad' i
def zKQ (h : zH) (ad : Nat → Nat) (lay0 : List zK) (lay1 : List zK) (σ1 : zS) (sz : Nat) : Array Value → State → Outcome → State → Prop := va_Qv (fun ad' : Nat → Nat => zKP ad ad' lay0.length lay1.length sz) (fun ad' t => zPst h ad' lay1 σ1 t.heap) (zA ad lay0.length sz)
def zKC (h : zH) (y : MethodName) (ws : List Cond) (F L mc ms : Nat) (ad : Nat → Nat) (argv : List Value) (lay0 : List zK) (σ0 : zS) (lay1 : List zK) (σ1 : zS) : Prop :=
  zI ad lay0.length → ∀ sz, Met h.1 y ws { frames := F, cells := mc, slots := ms, locals := L } (zPre h ad lay0 σ0 argv sz) (zKQ h ad lay0 lay1 σ1 sz) mc ms (zA ad lay0.length sz)
def zQk (h : zH) (ad : Nat → Nat) (lay0 lay1 : List zK) (σ1 : zS) (mc ms : Nat) (G : zG) (A : Nat → Prop) : Prop := match G with
  | (_, _, _, s, _, args, below, meth, _, Q, _, _) => Q = MQ below (zKQ h ad lay0 lay1 σ1 s.heap.size) args s mc ms (zA ad lay0.length s.heap.size) ∧ A = zA ad lay0.length s.heap.size ∧ meth.sig.returnType = none ∧ meth.name = "<init>" ∧ meth.locks = false
theorem z_startC {y : MethodName} {ws ws' : List Cond} {mc ms : Nat} {argv : List Value} {lay1 : List zK} (hy : plainName y.cls = true) (hw : ws = Cond.code y cc nL none :: ws') (hown : y.cls = own) (hnm : y.name = "<init>") (hlen : (lg_sl argv).length ≤ nL)
    (body : ∀ G A, zCc h nL G A cc own ws F L mc ms → zQk h ad lay0 lay1 σ1 mc ms G A → zVc h nL G A ad lay0 σ 0 0 0 (lv_args 0 argv) []) : zKC h y ws F L mc ms ad argv lay0 σ lay1 σ1 := by
  intro hI sz
  refine Met.ofW (cc := cc) (maxL := nL) (ret := none) hy hw ?_
  intro p e s m args below meth c s₁ B hml hv
  obtain ⟨rfl, hsz, hP, hK, hN, hZ⟩ := hv
  subst hsz
  rw [lg_entry_eq]
  exact body (p, e, { frames := F, cells := mc, slots := ms, locals := L }, s, m, argv.toArray, below, meth, c, _, 0, 0) (zA ad lay0.length s.heap.size) ⟨⟨B.exec, B.bytes, hml, by rw [← hown]; exact findClass_of_methodNamed B.named, atoms_spec (ws := ws) B.pre⟩, hK, fun q hq => Or.inr hq, rfl, rfl, rfl, rfl, hN, hZ⟩ ⟨rfl, rfl, B.returns, hnm ▸ (name_of_methodNamed B.named B.method).1, B.notSynchronized⟩ hI (fun i hi => Or.inl ⟨i, hi, rfl⟩) s.heap [] _ hP va_S.rf (lv_entry argv hlen)
theorem n_vret (C : zCc h nL G A cc own Ts F L Cc Cs) {mc ms : Nat} (hQ : zQk h ad0 lay0 lay σ mc ms G A) (hag : ∀ i, i < lay0.length → ad i = ad0 i) (hle : lay0.length ≤ lay.length) (hc : cells ≤ mc) (hs : slots ≤ ms) (hdg : decode cc pc = .ok (.return_, 1)) : zVc h nL G A ad lay σ cells slots pc lv [] := by
  obtain ⟨p, e, R, s, m, args, below, meth, c, Q, c0, s0⟩ := G
  obtain ⟨⟨hx, hb, hml, hown, hts⟩, hK, hAA, hF, hL, hCc, hCs, hN, hZ⟩ := C
  obtain ⟨rfl, rfl, hret, hnm, hlocks⟩ := hQ
  intro hI hAi H locs ls hP hS hl
  have hnew : ∀ i, lay0.length ≤ i → i < lay.length → s.heap.size ≤ ad i := by
    intro i h1 h2
    rcases hAi i h2 with ⟨j, hj, e9⟩ | h9
    · rw [← hag j hj] at e9
      have := hI i j h2 (Nat.lt_of_lt_of_le hj hle) e9
      omega
    · exact h9
  exact W.widen (k := mc) (n := ms) hc hs (W.vret hx hb hret (fun t ht hW => ⟨⟨ad, rfl, ⟨hag, hI, hnew⟩, (ht ▸ hP : zPst h ad lay σ t.heap)⟩, hS.F ht⟩) hS.2.2 hdg)
theorem n_callgo {nL' : Nat} {p : Program} {e : Env} {R : Room} {s : State} {m : MethodId} {args : Array Value} {below : List Frame} {meth : Method} {c : Code} {Q : State → Prop} {lay1 : List zK} {mc ms : Nat} {arr : Array Value} {H : Heap} {locs : List Loc} {ls : Array Slot} (hRun : va_Run p h.1 e R s m args below meth c H locs cells slots mc ms (F0 m pc ls st) rest (zKQ h ad lay lay1 σ1 H.size arr) (zA ad lay.length H.size)) (hI : zI ad lay.length) (hAi : ∀ i, i < lay.length → A (ad i)) (hAA : ∀ q, s.heap.size ≤ q → A q) (hS : va_S A s.heap H locs)
    (kk : ∀ ad' : Nat → Nat, (∀ i, i < lay.length → ad' i = ad i) → zI ad' lay1.length → (∀ i, i < lay1.length → A (ad' i)) → ∀ (H1 : Heap) (locs1 : List Loc), zPst h ad' lay1 σ1 H1 → va_S A s.heap H1 locs1 → W p h.1 e R s m args below meth c H1 locs1 (cells + mc) (slots + ms) Q (F0 m (pc + 3) ls rest)) : W p h.1 e R s m args below meth c H locs cells slots Q (F0 m pc ls st) := by
  have hA : ∀ q, zA ad lay.length H.size q → A q := by
    rintro q (⟨k, hk, rfl⟩ | hq)
    · exact hAi k hk
    · exact hAA q (Nat.le_trans hS.1 hq)
  refine va_callv (a := arr) hRun hS (fun q _ h => hA q h) hA (fun ad' t H1 locs1 ht hvm hw hB hz hk1 hS1 => ?_)
  obtain ⟨w1, w2, w3⟩ := hw
  refine kk ad' w1 w2 (fun i hi => ?_) H1 locs1 (by rw [← ht]; exact hB) hS1
  rcases Nat.lt_or_ge i lay.length with a | a
  · rw [w1 i a]; exact hAi i a
  · exact hAA _ (Nat.le_trans hS.1 (w3 i a hi))
theorem zHS_c {A0 : Nat → Prop} {s : State} (hZ : zHS A0 s s.heap) : zHS A0 s s.heap := hZ
/-- a nest mate's constructor is called -/
theorem n_callIN (C : zCc h nL G A cc own Ts F L Cc Cs) {y : MethodName} {ws ws' : List Cond} {bytes : ByteArray} {maxL index F' L' mc ms b : Nat} {host : String} {lay1 : List zK} (n : Nat) (As rest : List Value) (hM : zKC h y ws F' L' mc ms ad (.ref b :: As) lay σ lay1 σ1) (hG : GoodIn Ts ws) (hnn : (own, index, y, host) ∈ zN) (h1 : Cond.instanceMethod y ∈ Ts) (h2 : Cond.initialized y.cls ∈ Ts) (hnm : y.name = "<init>") (hd : y.cls ≠ "java/lang/invoke/MethodHandle" ∧ y.cls ≠ "java/lang/invoke/VarHandle" ∧ (parseMethodDescriptor y.desc).map (fun d => d.parameters.length) = some n) (hst : st = As.reverse ++ .ref b :: rest) (hdg : decode cc pc = .ok (.invokespecial index, 3)) (hw : ws = Cond.code y bytes maxL none :: ws') (hR : F' + 1 ≤ F ∧ 8 + (maxL + 11) + L' ≤ L) (hn : As.length = n) (hW : (rest.map fun v => v.category).sum ≤ 8) (hcs : cells + mc ≤ Cc ∧ slots + ms ≤ Cs)
    (kk : ∀ ad' : Nat → Nat, (∀ i, i < lay.length → ad' i = ad i) → zVc h nL G A ad' lay1 σ1 (cells + mc) (slots + ms) (pc + 3) lv rest) : zVc h nL G A ad lay σ cells slots pc lv st := by
  obtain ⟨p, e, R, s, m, args, below, meth, c, Q, c0, s0⟩ := G
  obtain ⟨⟨hx, hb, hml, hown, hts⟩, hK, hAA, hF, hL, hCc, hCs, hN, hZ⟩ := C
  intro hI hAi H locs ls hP hS hl
  have hRR : F' + 1 ≤ R.frames ∧ 8 + (maxL + 11) + L' ≤ R.locals := by rw [hF, hL]; exact hR
  have hA : ∀ q, zA ad lay.length H.size q → A q := by
    rintro q (⟨k, hk, rfl⟩ | hq)
    · exact hAi k hk
    · exact hAA q (Nat.le_trans hS.1 hq)
  have hRun := va_runIN (host := host) (g := F0 m pc ls st) (rest := rest) (H := H) (cells := cells) (slots := slots) (locs := locs) (below := below) (meth := meth) (e := e) ⟨hx, hb, hml, hown, hts⟩ (hM hI H.size) ⟨va_cnB n hts hG hw rfl rfl (hN.1 _ hnn) (hts _ h2) hd hRR, hnm, hts _ h1⟩ ⟨zPre_blind, fun U hU hW9 => zPre_at2 hU hW9 hP hK hN hZ hS hA⟩ rfl hn hl.1 hst (lv_room hW) hdg ⟨by rw [hCc]; exact hcs.1, by rw [hCs]; exact hcs.2⟩
  exact n_callgo (nL' := nL) hRun hI hAi hAA hS (fun ad' e1 e2 e3 H1 locs1 hP1 hS1 => kk ad' e1 e2 e3 H1 locs1 ls hP1 hS1 hl)
/-- a constructor that is linked plainly -/
theorem n_callI (C : zCc h nL G A cc own Ts F L Cc Cs) {y : MethodName} {ws ws' : List Cond} {bytes : ByteArray} {maxL index F' L' mc ms b : Nat} {lay1 : List zK} (n : Nat) (As rest : List Value) (hM : zKC h y ws F' L' mc ms ad (.ref b :: As) lay σ lay1 σ1) (hG : GoodIn Ts ws) (h0 : Cond.methodLink own index y ∈ Ts) (h1 : Cond.instanceMethod y ∈ Ts) (h2 : Cond.initialized y.cls ∈ Ts) (hnm : y.name = "<init>") (hd : y.cls ≠ "java/lang/invoke/MethodHandle" ∧ y.cls ≠ "java/lang/invoke/VarHandle" ∧ (parseMethodDescriptor y.desc).map (fun d => d.parameters.length) = some n) (hst : st = As.reverse ++ .ref b :: rest) (hdg : decode cc pc = .ok (.invokespecial index, 3)) (hw : ws = Cond.code y bytes maxL none :: ws') (hR : F' + 1 ≤ F ∧ 8 + (maxL + 11) + L' ≤ L) (hn : As.length = n) (hW : (rest.map fun v => v.category).sum ≤ 8) (hcs : cells + mc ≤ Cc ∧ slots + ms ≤ Cs)
    (kk : ∀ ad' : Nat → Nat, (∀ i, i < lay.length → ad' i = ad i) → zVc h nL G A ad' lay1 σ1 (cells + mc) (slots + ms) (pc + 3) lv rest) : zVc h nL G A ad lay σ cells slots pc lv st := by
  obtain ⟨p, e, R, s, m, args, below, meth, c, Q, c0, s0⟩ := G
  obtain ⟨⟨hx, hb, hml, hown, hts⟩, hK, hAA, hF, hL, hCc, hCs, hN, hZ⟩ := C
  intro hI hAi H locs ls hP hS hl
  have hRR : F' + 1 ≤ R.frames ∧ 8 + (maxL + 11) + L' ≤ R.locals := by rw [hF, hL]; exact hR
  have hA : ∀ q, zA ad lay.length H.size q → A q := by
    rintro q (⟨k, hk, rfl⟩ | hq)
    · exact hAi k hk
    · exact hAA q (Nat.le_trans hS.1 hq)
  have hRun := va_runI (g := F0 m pc ls st) (rest := rest) (H := H) (cells := cells) (slots := slots) (locs := locs) (below := below) (meth := meth) (e := e) ⟨hx, hb, hml, hown, hts⟩ (hM hI H.size) (cwI n hts hG hw rfl rfl (hts _ h2) (hts _ h0) (hts _ h1) hnm hd hRR) ⟨zPre_blind, fun U hU hW9 => zPre_at2 hU hW9 hP hK hN hZ hS hA⟩ rfl hn hl.1 hst (lv_room hW) hdg ⟨by rw [hCc]; exact hcs.1, by rw [hCs]; exact hcs.2⟩
  exact n_callgo (nL' := nL) hRun hI hAi hAA hS (fun ad' e1 e2 e3 H1 locs1 hP1 hS1 => kk ad' e1 e2 e3 H1 locs1 ls hP1 hS1 hl)
/-- a method of an object of the world is called, which makes nothing -/
theorem n_callV (C : zCc h nL G A cc own Ts F L Cc Cs) {y : MethodName} {ws ws' : List Cond} {bytes : ByteArray} {maxL : Nat} {ret : Option FieldType} {index F' L' b : Nat} {r : Int32} (n : Nat) (As : List Value) (rest : List Value) {Cn : String} {k ci : Nat} {fs : List Nat} {q : vw_C} (hM : zMR h ad lay false y ws F' L' (.ref (ad k) :: As) σ (.inl r) σ1) (hT : GoodIn Ts (wsV own index Cn y ws)) (hd : y.cls = Cn ∧ y.cls ≠ "java/lang/invoke/MethodHandle" ∧ y.cls ≠ "java/lang/invoke/VarHandle" ∧ (parseMethodDescriptor y.desc).map (fun d => d.parameters.length) = some n) (hk : lay[k]? = some (.inr (ci, fs))) (hc : vwCl[ci]? = some q) (hq : q.1 = Cn) (hb9 : ad k = b) (hst : st = As.reverse ++ .ref b :: rest) (hdg : decode cc pc = .ok (.invokevirtual index, 3)) (hw : ws = Cond.code y bytes maxL ret :: ws') (hR : F' + 1 ≤ F ∧ 8 + (maxL + 11) + L' ≤ L) (hn : As.length = n) (hW : (rest.map fun v => v.category).sum ≤ 8) (hcs : cells ≤ Cc ∧ slots ≤ Cs)
    (kk : zVc h nL G A ad lay σ1 cells slots (pc + 3) lv (.int r :: rest)) : zVc h nL G A ad lay σ cells slots pc lv st := by
  obtain ⟨p, e, R, s, m, args, below, meth, c, Q, c0, s0⟩ := G
  obtain ⟨⟨hx, hb, hml, hown, hts⟩, hK, hAA, hF, hL, hCc, hCs, hN, hZ⟩ := C
  subst hb9
  intro hI hAi H locs ls hP hS hl
  have hRR : F' + 1 ≤ R.frames ∧ 8 + (maxL + 11) + L' ≤ R.locals := by rw [hF, hL]; exact hR
  have hA : ∀ q, zA ad lay.length H.size q → A q := by
    rintro q (⟨k, hk, rfl⟩ | hq)
    · exact hAi k hk
    · exact hAA q (Nat.le_trans hS.1 hq)
  have hRun := va_runV (g := F0 m pc ls st) (rest := rest) (H := H) (cells := cells) (slots := slots) (locs := locs) (below := below) (meth := meth) (e := e) ⟨hx, hb, hml, hown, hts⟩ (hM H.size) (cwV n hts hT hw rfl rfl hd hRR) ⟨zPre_blind, hq ▸ va_recv hK hP hc (zW_at hk), fun U hU hW9 => zPre_at2 hU hW9 hP hK hN hZ hS hA⟩ rfl hn hl.1 hst (lv_room hW) hdg ⟨by rw [hCc]; exact hcs.1, by rw [hCs]; exact hcs.2⟩
  exact va_calli (a := #[]) hRun hS (fun q _ h => hA q h) hA (fun r9 u t H1 locs1 ht hvm hw hB hz hk1 hS1 => by subst hw; exact kk hI hAi H1 locs1 ls (by rw [← ht]; exact hB) hS1 hl)
end ZCN
end
