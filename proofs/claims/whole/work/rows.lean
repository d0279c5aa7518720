section
-- ===== PART A: goes FIRST, ahead of the names: the tables' words, and 'selects' of the private methods out of them =====
/-- a private method of a class that the tables say can be made, by its rows of tables_1 -/
def lw_okq (q : MethodName × Nat) : Prop := (q.1.cls ≠ "java/lang/invoke/MethodHandle" ∧ q.1.cls ≠ "java/lang/invoke/VarHandle") ∧ Cond.instantiable q.1.cls q.2 ∈ tables_1 ∧ Cond.privateMethod q.1 ∈ tables_1 ∧ Cond.instanceMethod q.1 ∈ tables_1
theorem lw_p0 : lw_okq (⟨"CutPlanner$Search", "forget", "()V"⟩, 6) := ⟨⟨by decide +kernel, by decide +kernel⟩, List.mem_of_getElem? (i := 68) (by decide +kernel), List.mem_of_getElem? (i := 191) (by decide +kernel), List.mem_of_getElem? (i := 192) (by decide +kernel)⟩
theorem lw_p1 : lw_okq (⟨"CutPlanner$Search", "settle", "(II)V"⟩, 6) := ⟨⟨by decide +kernel, by decide +kernel⟩, List.mem_of_getElem? (i := 68) (by decide +kernel), List.mem_of_getElem? (i := 195) (by decide +kernel), List.mem_of_getElem? (i := 196) (by decide +kernel)⟩
theorem lw_p2 : lw_okq (⟨"CutPlanner$Search", "lastSpent", "()I"⟩, 6) := ⟨⟨by decide +kernel, by decide +kernel⟩, List.mem_of_getElem? (i := 68) (by decide +kernel), List.mem_of_getElem? (i := 199) (by decide +kernel), List.mem_of_getElem? (i := 200) (by decide +kernel)⟩
theorem lw_p3 : lw_okq (⟨"CutPlanner$Search", "spread", "(III)V"⟩, 6) := ⟨⟨by decide +kernel, by decide +kernel⟩, List.mem_of_getElem? (i := 68) (by decide +kernel), List.mem_of_getElem? (i := 203) (by decide +kernel), List.mem_of_getElem? (i := 204) (by decide +kernel)⟩
theorem lw_p4 : lw_okq (⟨"CutPlanner$Search", "leastOnward", "(I)I"⟩, 6) := ⟨⟨by decide +kernel, by decide +kernel⟩, List.mem_of_getElem? (i := 68) (by decide +kernel), List.mem_of_getElem? (i := 234) (by decide +kernel), List.mem_of_getElem? (i := 235) (by decide +kernel)⟩
theorem lw_p5 : lw_okq (⟨"CutPlanner$Levels", "lower", "(II)Z"⟩, 2) := ⟨⟨by decide +kernel, by decide +kernel⟩, List.mem_of_getElem? (i := 112) (by decide +kernel), List.mem_of_getElem? (i := 276) (by decide +kernel), List.mem_of_getElem? (i := 277) (by decide +kernel)⟩
theorem lw_p6 : lw_okq (⟨"CutPlanner$Cuts", "goalHeight", "(I)I"⟩, 7) := ⟨⟨by decide +kernel, by decide +kernel⟩, List.mem_of_getElem? (i := 126) (by decide +kernel), List.mem_of_getElem? (i := 296) (by decide +kernel), List.mem_of_getElem? (i := 297) (by decide +kernel)⟩
theorem lw_p7 : lw_okq (⟨"CutPlanner$Cuts", "nextCut", "(I)I"⟩, 7) := ⟨⟨by decide +kernel, by decide +kernel⟩, List.mem_of_getElem? (i := 126) (by decide +kernel), List.mem_of_getElem? (i := 303) (by decide +kernel), List.mem_of_getElem? (i := 304) (by decide +kernel)⟩
theorem lw_p8 : lw_okq (⟨"CutPlanner$Cuts", "zoneBefore", "(I)I"⟩, 7) := ⟨⟨by decide +kernel, by decide +kernel⟩, List.mem_of_getElem? (i := 126) (by decide +kernel), List.mem_of_getElem? (i := 311) (by decide +kernel), List.mem_of_getElem? (i := 312) (by decide +kernel)⟩
theorem lw_p9 : lw_okq (⟨"CutPlanner$Cuts", "restBehind", "(II)I"⟩, 7) := ⟨⟨by decide +kernel, by decide +kernel⟩, List.mem_of_getElem? (i := 126) (by decide +kernel), List.mem_of_getElem? (i := 315) (by decide +kernel), List.mem_of_getElem? (i := 316) (by decide +kernel)⟩
theorem lw_p10 : lw_okq (⟨"CutPlanner$Cuts", "isBasedIn", "(II)Z"⟩, 7) := ⟨⟨by decide +kernel, by decide +kernel⟩, List.mem_of_getElem? (i := 126) (by decide +kernel), List.mem_of_getElem? (i := 319) (by decide +kernel), List.mem_of_getElem? (i := 320) (by decide +kernel)⟩
theorem lw_p11 : lw_okq (⟨"CutPlanner$Cuts", "pay", "(I)I"⟩, 7) := ⟨⟨by decide +kernel, by decide +kernel⟩, List.mem_of_getElem? (i := 126) (by decide +kernel), List.mem_of_getElem? (i := 324) (by decide +kernel), List.mem_of_getElem? (i := 325) (by decide +kernel)⟩
theorem lw_p12 : lw_okq (⟨"java/lang/Throwable", "fillInStackTrace", "(I)Ljava/lang/Throwable;"⟩, 6) := ⟨⟨by decide +kernel, by decide +kernel⟩, List.mem_of_getElem? (i := 394) (by decide +kernel), List.mem_of_getElem? (i := 392) (by decide +kernel), List.mem_of_getElem? (i := 393) (by decide +kernel)⟩
theorem lw_p13 : lw_okq (⟨"CutPlanner", "startAnew", "()V"⟩, 7) := ⟨⟨by decide +kernel, by decide +kernel⟩, List.mem_of_getElem? (i := 18) (by decide +kernel), List.mem_of_getElem? (i := 428) (by decide +kernel), List.mem_of_getElem? (i := 429) (by decide +kernel)⟩
theorem lw_p14 : lw_okq (⟨"CutPlanner", "refuseUnknownAction", "(I)V"⟩, 7) := ⟨⟨by decide +kernel, by decide +kernel⟩, List.mem_of_getElem? (i := 18) (by decide +kernel), List.mem_of_getElem? (i := 469) (by decide +kernel), List.mem_of_getElem? (i := 470) (by decide +kernel)⟩
theorem lw_p15 : lw_okq (⟨"CutPlanner", "refuseUnknownFact", "(I)V"⟩, 7) := ⟨⟨by decide +kernel, by decide +kernel⟩, List.mem_of_getElem? (i := 18) (by decide +kernel), List.mem_of_getElem? (i := 489) (by decide +kernel), List.mem_of_getElem? (i := 490) (by decide +kernel)⟩
def lw_privs_1 : List (MethodName × Nat) := [(⟨"CutPlanner$Search", "forget", "()V"⟩, 6), (⟨"CutPlanner$Search", "settle", "(II)V"⟩, 6), (⟨"CutPlanner$Search", "lastSpent", "()I"⟩, 6), (⟨"CutPlanner$Search", "spread", "(III)V"⟩, 6), (⟨"CutPlanner$Search", "leastOnward", "(I)I"⟩, 6), (⟨"CutPlanner$Levels", "lower", "(II)Z"⟩, 2), (⟨"CutPlanner$Cuts", "goalHeight", "(I)I"⟩, 7), (⟨"CutPlanner$Cuts", "nextCut", "(I)I"⟩, 7), (⟨"CutPlanner$Cuts", "zoneBefore", "(I)I"⟩, 7), (⟨"CutPlanner$Cuts", "restBehind", "(II)I"⟩, 7), (⟨"CutPlanner$Cuts", "isBasedIn", "(II)Z"⟩, 7), (⟨"CutPlanner$Cuts", "pay", "(I)I"⟩, 7), (⟨"java/lang/Throwable", "fillInStackTrace", "(I)Ljava/lang/Throwable;"⟩, 6), (⟨"CutPlanner", "startAnew", "()V"⟩, 7), (⟨"CutPlanner", "refuseUnknownAction", "(I)V"⟩, 7), (⟨"CutPlanner", "refuseUnknownFact", "(I)V"⟩, 7)]
theorem lw_r1 : ∀ q ∈ lw_privs_1, lw_okq q := List.forall_mem_cons.mpr ⟨lw_p0, List.forall_mem_cons.mpr ⟨lw_p1, List.forall_mem_cons.mpr ⟨lw_p2, List.forall_mem_cons.mpr ⟨lw_p3, List.forall_mem_cons.mpr ⟨lw_p4, List.forall_mem_cons.mpr ⟨lw_p5, List.forall_mem_cons.mpr ⟨lw_p6, List.forall_mem_cons.mpr ⟨lw_p7, List.forall_mem_cons.mpr ⟨lw_p8, List.forall_mem_cons.mpr ⟨lw_p9, List.forall_mem_cons.mpr ⟨lw_p10, List.forall_mem_cons.mpr ⟨lw_p11, List.forall_mem_cons.mpr ⟨lw_p12, List.forall_mem_cons.mpr ⟨lw_p13, List.forall_mem_cons.mpr ⟨lw_p14, List.forall_mem_cons.mpr ⟨lw_p15, fun _ h => absurd h List.not_mem_nil⟩⟩⟩⟩⟩⟩⟩⟩⟩⟩⟩⟩⟩⟩⟩⟩
theorem lw_p16 : lw_okq (⟨"CutPlannerModel", "changed", "()V"⟩, 21) := ⟨⟨by decide +kernel, by decide +kernel⟩, List.mem_of_getElem? (i := 559) (by decide +kernel), List.mem_of_getElem? (i := 638) (by decide +kernel), List.mem_of_getElem? (i := 639) (by decide +kernel)⟩
theorem lw_p17 : lw_okq (⟨"CutPlannerModel", "noAction", "(I)Z"⟩, 21) := ⟨⟨by decide +kernel, by decide +kernel⟩, List.mem_of_getElem? (i := 559) (by decide +kernel), List.mem_of_getElem? (i := 650) (by decide +kernel), List.mem_of_getElem? (i := 651) (by decide +kernel)⟩
theorem lw_p18 : lw_okq (⟨"CutPlannerModel", "noFact", "(I)Z"⟩, 21) := ⟨⟨by decide +kernel, by decide +kernel⟩, List.mem_of_getElem? (i := 559) (by decide +kernel), List.mem_of_getElem? (i := 654) (by decide +kernel), List.mem_of_getElem? (i := 655) (by decide +kernel)⟩
theorem lw_p19 : lw_okq (⟨"CutPlannerModel", "can", "(II)Z"⟩, 21) := ⟨⟨by decide +kernel, by decide +kernel⟩, List.mem_of_getElem? (i := 559) (by decide +kernel), List.mem_of_getElem? (i := 670) (by decide +kernel), List.mem_of_getElem? (i := 671) (by decide +kernel)⟩
theorem lw_p20 : lw_okq (⟨"CutPlannerModel", "after", "(II)I"⟩, 21) := ⟨⟨by decide +kernel, by decide +kernel⟩, List.mem_of_getElem? (i := 559) (by decide +kernel), List.mem_of_getElem? (i := 678) (by decide +kernel), List.mem_of_getElem? (i := 679) (by decide +kernel)⟩
theorem lw_p21 : lw_okq (⟨"CutPlannerModel", "isMet", "(I)Z"⟩, 21) := ⟨⟨by decide +kernel, by decide +kernel⟩, List.mem_of_getElem? (i := 559) (by decide +kernel), List.mem_of_getElem? (i := 682) (by decide +kernel), List.mem_of_getElem? (i := 683) (by decide +kernel)⟩
theorem lw_p22 : lw_okq (⟨"CutPlannerModel", "findCosts", "()V"⟩, 21) := ⟨⟨by decide +kernel, by decide +kernel⟩, List.mem_of_getElem? (i := 559) (by decide +kernel), List.mem_of_getElem? (i := 690) (by decide +kernel), List.mem_of_getElem? (i := 691) (by decide +kernel)⟩
theorem lw_p23 : lw_okq (⟨"CutPlannerModel", "bestAction", "(I)I"⟩, 21) := ⟨⟨by decide +kernel, by decide +kernel⟩, List.mem_of_getElem? (i := 559) (by decide +kernel), List.mem_of_getElem? (i := 695) (by decide +kernel), List.mem_of_getElem? (i := 696) (by decide +kernel)⟩
theorem lw_p24 : lw_okq (⟨"CutPlannerModel", "comeTo", "()V"⟩, 21) := ⟨⟨by decide +kernel, by decide +kernel⟩, List.mem_of_getElem? (i := 559) (by decide +kernel), List.mem_of_getElem? (i := 711) (by decide +kernel), List.mem_of_getElem? (i := 712) (by decide +kernel)⟩
theorem lw_p25 : lw_okq (⟨"CutPlannerModel", "ownRates", "()V"⟩, 21) := ⟨⟨by decide +kernel, by decide +kernel⟩, List.mem_of_getElem? (i := 559) (by decide +kernel), List.mem_of_getElem? (i := 723) (by decide +kernel), List.mem_of_getElem? (i := 724) (by decide +kernel)⟩
theorem lw_p26 : lw_okq (⟨"CutPlannerModel", "findLevels", "(ZI)V"⟩, 21) := ⟨⟨by decide +kernel, by decide +kernel⟩, List.mem_of_getElem? (i := 559) (by decide +kernel), List.mem_of_getElem? (i := 727) (by decide +kernel), List.mem_of_getElem? (i := 728) (by decide +kernel)⟩
theorem lw_p27 : lw_okq (⟨"CutPlannerModel", "over", "(IZ)I"⟩, 21) := ⟨⟨by decide +kernel, by decide +kernel⟩, List.mem_of_getElem? (i := 559) (by decide +kernel), List.mem_of_getElem? (i := 731) (by decide +kernel), List.mem_of_getElem? (i := 732) (by decide +kernel)⟩
theorem lw_p28 : lw_okq (⟨"CutPlannerModel", "cutAll", "()V"⟩, 21) := ⟨⟨by decide +kernel, by decide +kernel⟩, List.mem_of_getElem? (i := 559) (by decide +kernel), List.mem_of_getElem? (i := 746) (by decide +kernel), List.mem_of_getElem? (i := 747) (by decide +kernel)⟩
theorem lw_p29 : lw_okq (⟨"CutPlannerModel", "zone", "()I"⟩, 21) := ⟨⟨by decide +kernel, by decide +kernel⟩, List.mem_of_getElem? (i := 559) (by decide +kernel), List.mem_of_getElem? (i := 750) (by decide +kernel), List.mem_of_getElem? (i := 751) (by decide +kernel)⟩
theorem lw_p30 : lw_okq (⟨"CutPlannerModel", "base", "(I)I"⟩, 21) := ⟨⟨by decide +kernel, by decide +kernel⟩, List.mem_of_getElem? (i := 559) (by decide +kernel), List.mem_of_getElem? (i := 754) (by decide +kernel), List.mem_of_getElem? (i := 755) (by decide +kernel)⟩
theorem lw_p31 : lw_okq (⟨"CutPlannerModel", "rest", "(I)I"⟩, 21) := ⟨⟨by decide +kernel, by decide +kernel⟩, List.mem_of_getElem? (i := 559) (by decide +kernel), List.mem_of_getElem? (i := 758) (by decide +kernel), List.mem_of_getElem? (i := 759) (by decide +kernel)⟩
def lw_privs_2 : List (MethodName × Nat) := [(⟨"CutPlannerModel", "changed", "()V"⟩, 21), (⟨"CutPlannerModel", "noAction", "(I)Z"⟩, 21), (⟨"CutPlannerModel", "noFact", "(I)Z"⟩, 21), (⟨"CutPlannerModel", "can", "(II)Z"⟩, 21), (⟨"CutPlannerModel", "after", "(II)I"⟩, 21), (⟨"CutPlannerModel", "isMet", "(I)Z"⟩, 21), (⟨"CutPlannerModel", "findCosts", "()V"⟩, 21), (⟨"CutPlannerModel", "bestAction", "(I)I"⟩, 21), (⟨"CutPlannerModel", "comeTo", "()V"⟩, 21), (⟨"CutPlannerModel", "ownRates", "()V"⟩, 21), (⟨"CutPlannerModel", "findLevels", "(ZI)V"⟩, 21), (⟨"CutPlannerModel", "over", "(IZ)I"⟩, 21), (⟨"CutPlannerModel", "cutAll", "()V"⟩, 21), (⟨"CutPlannerModel", "zone", "()I"⟩, 21), (⟨"CutPlannerModel", "base", "(I)I"⟩, 21), (⟨"CutPlannerModel", "rest", "(I)I"⟩, 21)]
theorem lw_r2 : ∀ q ∈ lw_privs_2, lw_okq q := List.forall_mem_cons.mpr ⟨lw_p16, List.forall_mem_cons.mpr ⟨lw_p17, List.forall_mem_cons.mpr ⟨lw_p18, List.forall_mem_cons.mpr ⟨lw_p19, List.forall_mem_cons.mpr ⟨lw_p20, List.forall_mem_cons.mpr ⟨lw_p21, List.forall_mem_cons.mpr ⟨lw_p22, List.forall_mem_cons.mpr ⟨lw_p23, List.forall_mem_cons.mpr ⟨lw_p24, List.forall_mem_cons.mpr ⟨lw_p25, List.forall_mem_cons.mpr ⟨lw_p26, List.forall_mem_cons.mpr ⟨lw_p27, List.forall_mem_cons.mpr ⟨lw_p28, List.forall_mem_cons.mpr ⟨lw_p29, List.forall_mem_cons.mpr ⟨lw_p30, List.forall_mem_cons.mpr ⟨lw_p31, fun _ h => absurd h List.not_mem_nil⟩⟩⟩⟩⟩⟩⟩⟩⟩⟩⟩⟩⟩⟩⟩⟩
theorem lw_p32 : lw_okq (⟨"CutPlannerModel", "actionsAcross", "(II)I"⟩, 21) := ⟨⟨by decide +kernel, by decide +kernel⟩, List.mem_of_getElem? (i := 559) (by decide +kernel), List.mem_of_getElem? (i := 762) (by decide +kernel), List.mem_of_getElem? (i := 763) (by decide +kernel)⟩
theorem lw_p33 : lw_okq (⟨"CutPlannerModel", "least", "(I)I"⟩, 21) := ⟨⟨by decide +kernel, by decide +kernel⟩, List.mem_of_getElem? (i := 559) (by decide +kernel), List.mem_of_getElem? (i := 766) (by decide +kernel), List.mem_of_getElem? (i := 767) (by decide +kernel)⟩
def lw_privs_3 : List (MethodName × Nat) := [(⟨"CutPlannerModel", "actionsAcross", "(II)I"⟩, 21), (⟨"CutPlannerModel", "least", "(I)I"⟩, 21)]
theorem lw_r3 : ∀ q ∈ lw_privs_3, lw_okq q := List.forall_mem_cons.mpr ⟨lw_p32, List.forall_mem_cons.mpr ⟨lw_p33, fun _ h => absurd h List.not_mem_nil⟩⟩
def lw_privs : List (MethodName × Nat) := lw_privs_1 ++ (lw_privs_2 ++ (lw_privs_3))
def lw_tbl : List Cond := k2_sels lw_privs ++ tables_1
theorem lw_privs_ok : ∀ q ∈ lw_privs, lw_okq q := by
  show ∀ q ∈ lw_privs_1 ++ (lw_privs_2 ++ (lw_privs_3)), lw_okq q
  exact List.forall_mem_append.mpr ⟨lw_r1, List.forall_mem_append.mpr ⟨lw_r2, lw_r3⟩⟩
-- ===== end of PART A; then your names; then what follows =====
end
section
/-! A walk's judgement with its world, its locals and its stack as lists: Z ws L pc st. The machine's own things stand in zd_E. -/
/-- the addresses of a world -/
def zd_A (ws : va_W) : Nat → Prop := fun q => ∃ (k : Nat) (e : va_E), ws[k]? = some (q, e)
/-- the locals by their places: those that are named hold words of one slot -/
def zd_L (ls : Array Slot) (nL : Nat) (L : List (Option Value)) : Prop := ls.size = nL ∧ lv_wf ls ∧ ∀ (i : Nat) (v : Value), L[i]? = some (some v) → v.category = 1 ∧ ls[i]? = some (.val v)
def zd_pairs (L : List (Option Value)) : List (Nat × Value) := L.zipIdx.filterMap (fun q => q.1.map (fun v => (q.2, v)))
theorem zd_pairs_mem {L : List (Option Value)} {i : Nat} {v : Value} : (i, v) ∈ zd_pairs L ↔ L[i]? = some (some v) := by
  unfold zd_pairs
  rw [List.mem_filterMap]
  constructor
  · rintro ⟨⟨o, j⟩, hm, hq⟩
    rw [List.mem_zipIdx_iff_getElem?] at hm
    cases o with
    | none => simp at hq
    | some w => simp at hq; obtain ⟨rfl, rfl⟩ := hq; exact hm
  · intro h
    exact ⟨(some v, i), List.mem_zipIdx_iff_getElem?.mpr h, rfl⟩
theorem zd_L.has {ls : Array Slot} {nL : Nat} {L : List (Option Value)} (h : zd_L ls nL L) : lv_has ls nL (zd_pairs L) := ⟨h.1, h.2.1, fun q hq => (h.2.2 q.1 q.2 (zd_pairs_mem.mp hq)).2⟩
theorem zd_L.at {ls : Array Slot} {nL : Nat} {L : List (Option Value)} (h : zd_L ls nL L) {i : Nat} {v : Value} (hi : L[i]? = some (some v)) : ls[i]? = some (.val v) := (h.2.2 i v hi).2
theorem zd_L.put {ls : Array Slot} {nL : Nat} {L : List (Option Value)} {i : Nat} {v : Value} (h : zd_L ls nL L) (hc : v.category = 1) {ls' : Array Slot}
    (h' : lv_has ls' nL ((i, v) :: (zd_pairs L).filter (fun q => !(q.1 == i) && !(q.1 + 1 == i && q.2.category == 2)))) : zd_L ls' nL (L.set i (some v)) := by
  refine ⟨h'.1, h'.2.1, fun j w hj => ?_⟩
  rw [List.getElem?_set] at hj
  by_cases hij : i = j
  · subst hij
    rw [if_pos rfl] at hj
    by_cases hl : i < L.length
    · rw [if_pos hl] at hj
      have hw : v = w := by simpa using hj
      subst hw
      exact ⟨hc, h'.2.2 (i, v) List.mem_cons_self⟩
    · rw [if_neg hl] at hj; cases hj
  · rw [if_neg hij] at hj
    obtain ⟨c1, -⟩ := h.2.2 j w hj
    refine ⟨c1, h'.2.2 (j, w) (List.mem_cons_of_mem _ (List.mem_filter.mpr ⟨zd_pairs_mem.mpr hj, ?_⟩))⟩
    have : ¬ j = i := fun e => hij e.symm
    simp [this, c1]
/-- fewer locals -/
def zd_le : List (Option Value) → List (Option Value) → Prop
  | [], _ => True
  | none :: r, _ :: t => zd_le r t
  | none :: r, [] => zd_le r []
  | some v :: r, some w :: t => v = w ∧ zd_le r t
  | some _ :: _, none :: _ => False
  | some _ :: _, [] => False
theorem zd_le_get : ∀ {a b : List (Option Value)}, zd_le a b → ∀ (i : Nat) (v : Value), a[i]? = some (some v) → b[i]? = some (some v)
  | [], _, _, i, v, h => by simp at h
  | none :: r, w :: t, hl, i, v, h => by
    cases i with
    | zero => simp at h
    | succ i => simp at h ⊢; exact zd_le_get (a := r) (b := t) hl i v h
  | none :: r, [], hl, i, v, h => by
    cases i with
    | zero => simp at h
    | succ i =>
      simp at h
      have := zd_le_get (a := r) (b := []) hl i v h
      simp at this
  | some v' :: r, some w :: t, hl, i, v, h => by
    obtain ⟨rfl, hl⟩ := hl
    cases i with
    | zero => simpa using h
    | succ i => simp at h ⊢; exact zd_le_get (a := r) (b := t) hl i v h
  | some _ :: _, none :: _, hl, _, _, _ => hl.elim
  | some _ :: _, [], hl, _, _, _ => hl.elim
theorem zd_L.less {ls : Array Slot} {nL : Nat} {L L' : List (Option Value)} (h : zd_L ls nL L) (hl : zd_le L' L) : zd_L ls nL L' := ⟨h.1, h.2.1, fun i v hi => h.2.2 i v (zd_le_get hl i v hi)⟩
/-- a method's end: its answer and the world behind it -/
def zd_Q (D : va_G) (cl : List vw_C) (tys : List (ClassId × FieldType)) (A : Nat → Prop) (post : Option Value → va_W → Prop) : Array Value → State → Outcome → State → Prop := fun _ st oc t =>
  (∃ (v : Option Value) (ws : va_W), oc = .returned v ∧ post v ws ∧ va_P D cl ws t.heap ∧ va_D A ws ∧ va_K D cl tys t) ∧ va_F A st t
/-- a link to a private member of a nest mate -/
def zd_nest : Cond → Bool
  | .fieldLinkNest .. => true
  | .methodLinkNest .. => true
  | _ => false
def zd_ok (w : Cond) : Bool := goodWord w || zd_nest w
/-- the links to nest mates among some words hold -/
def zd_N (Ts : List Cond) (U : State) : Prop := ∀ w ∈ Ts, zd_nest w = true → va_Nw w U
theorem zd_N.warm {Ts : List Cond} {s U : State} (hW : s.WarmedH U.vm) (h : zd_N Ts s) : zd_N Ts U := by
  intro w hw hn
  have h1 := h w hw hn
  cases w <;> first | (simp [zd_nest] at hn; done) | exact va_Nw.warmF hW h1 | exact va_Nw.warmM hW h1
theorem zd_N.same {Ts : List Cond} {s U : State} (hv : s.vm = U.vm) (h : zd_N Ts s) : zd_N Ts U := by
  intro w hw hn
  have h1 := h w hw hn
  cases w <;> first | (simp [zd_nest] at hn; done) | exact va_Nw.same rfl hv h1
theorem zd_nuse {w : Cond} {A : Array Value} {U : State} (hn : zd_nest w = true) (h : va_Nw w U) : w.before A U = true := by
  cases w <;> first | (simp [zd_nest] at hn; done) | exact va_Nw.use rfl h
theorem zd_nof {w : Cond} {A : Array Value} {U : State} (hn : zd_nest w = true) (h : w.before A U = true) : va_Nw w U := by
  cases w <;> first | (simp [zd_nest] at hn; done) | exact va_Nw.of rfl h
def zd_wy (y : MethodName) (cc : ByteArray) (nL : Nat) (ret : Option FieldType) (Ts : List Cond) : List Cond := .code y cc nL ret :: Ts.filter goodWord
/-- a contract over a world of cells at known addresses; nothing is made -/
def zd_Ct (l : Launch) (D : va_G) (cl : List vw_C) (tys : List (ClassId × FieldType)) (Ts : List Cond) (y : MethodName) (cc : ByteArray) (nL : Nat) (ret : Option FieldType) (R : Room) (av : List Value) (ws : va_W) (post : Option Value → va_W → Prop) : Prop :=
  Met l y (zd_wy y cc nL ret Ts) R (va_Pc av (fun U => va_P D cl ws U.heap ∧ va_K D cl tys U ∧ va_D (fun _ => True) ws ∧ zd_N Ts U)) (zd_Q D cl tys (zd_A ws) post) 0 0 (zd_A ws)
def zd_W (p : Program) (l : Launch) (e : Env) (R : Room) (s : State) (m : MethodId) (args : Array Value) (below : List Frame) (meth : Method) (c : Code) (D : va_G) (cl : List vw_C) (A : Nat → Prop) (nL : Nat) (Q : State → Prop) (ws : va_W) (L : List (Option Value)) (pc : Nat) (st : List Value) : Prop :=
  ∀ (H : Heap) (locs : List Loc) (ls : Array Slot), va_P D cl ws H → va_D A ws → va_S A s.heap H locs → zd_L ls nL L → W p l e R s m args below meth c H locs 0 0 Q (F0 m pc ls st)
/-- Z is the walk of a method of ours -/
def zd_E (Z : va_W → List (Option Value) → Nat → List Value → Prop) (l : Launch) (D : va_G) (cl : List vw_C) (tys : List (ClassId × FieldType)) (cc : ByteArray) (nL : Nat) (own : String) (Ts : List Cond) (R : Room) (ret : Option FieldType) (post : Option Value → va_W → Prop) : Prop :=
  ∃ (p : Program) (e : Env) (s : State) (m : MethodId) (args : Array Value) (below : List Frame) (meth : Method) (c : Code) (A : Nat → Prop),
    p.tables.exec = Jvm.exec ∧ c.code = cc ∧ c.maxLocals = nL ∧ s.vm.findClass own = some m.cls ∧ (∀ w ∈ Ts, w.before args s = true) ∧ va_K D cl tys s ∧ meth.sig.returnType = ret ∧ meth.locks = false ∧
    Z = zd_W p l e R s m args below meth c D cl A nL (MQ below (zd_Q D cl tys A post) args s 0 0 A)
/-- every word is of the tables -/
def zd_G (Ts : List Cond) : Prop := ∀ w ∈ Ts, goodWord w = true ∨ zd_nest w = true
theorem zd_init : ∀ (av : List Value) (n k i : Nat) (v : Value), (∀ w ∈ av, w.category = 1) → (av.map some ++ List.replicate n (none : Option Value))[i]? = some (some v) → (k + i, v) ∈ lv_args k av ∧ v ∈ av
  | [], n, k, i, v, _, h => by
    simp only [List.map_nil, List.nil_append, List.getElem?_replicate] at h
    by_cases hi : i < n
    · rw [if_pos hi] at h; cases h
    · rw [if_neg hi] at h; cases h
  | a :: r, n, k, 0, v, hc, h => by
    simp at h
    subst h
    exact ⟨by simp [lv_args], List.mem_cons_self⟩
  | a :: r, n, k, i + 1, v, hc, h => by
    have hc1 : a.category = 1 := hc a List.mem_cons_self
    obtain ⟨h1, h2⟩ := zd_init r n (k + 1) i v (fun w hw => hc w (List.mem_cons_of_mem _ hw)) (by simpa using h)
    refine ⟨?_, List.mem_cons_of_mem _ h2⟩
    have e : k + (i + 1) = k + 1 + i := by omega
    rw [e]
    simp only [lv_args]
    have : ¬ a.category = 2 := by omega
    rw [if_neg this]
    exact List.mem_cons_of_mem _ h1
theorem zd_met {l : Launch} {D : va_G} {cl : List vw_C} {tys : List (ClassId × FieldType)} {y : MethodName} {cc : ByteArray} {nL : Nat} {Ts : List Cond} {R : Room} {ret : Option FieldType} {av : List Value} {ws : va_W} {post : Option Value → va_W → Prop}
    (G : zd_G Ts) (hy : plainName y.cls = true) (hc0 : av.all (fun v => v.category == 1) = true) (hn : (lg_sl av).length ≤ nL)
    (body : ∀ Z, zd_E Z l D cl tys cc nL y.cls Ts R ret post → Z ws (av.map some ++ List.replicate (nL - av.length) none) 0 []) : zd_Ct l D cl tys Ts y cc nL ret R av ws post := by
  have hc : ∀ v ∈ av, v.category = 1 := fun v hv => by simpa using List.all_eq_true.mp hc0 v hv
  refine Met.ofW (cc := cc) (maxL := nL) (ret := ret) hy rfl ?_
  intro p e s m args below meth c s₁ B hml hv
  obtain ⟨rfl, hP, hK, hD0, hN0⟩ := hv
  have hD : va_D (zd_A ws) ws := ⟨hD0.1, fun k q hk => ⟨k, q.2, hk⟩⟩
  have hl := lv_entry av (n := nL) hn
  rw [lg_entry_eq]
  have hown : s.vm.findClass y.cls = some m.cls := findClass_of_methodNamed B.named
  have hts := atoms_spec (ws := zd_wy y cc nL ret Ts) B.pre
  refine body _ ⟨p, e, s, m, av.toArray, below, meth, c, zd_A ws, B.exec, B.bytes, hml, hown, fun w hw => (G w hw).elim (fun g => hts w (List.mem_cons_of_mem _ (List.mem_filter.mpr ⟨hw, g⟩))) (fun g => zd_nuse g (hN0 w hw g)), hK, B.returns, B.notSynchronized, rfl⟩ s.heap [] _ hP hD va_S.rf ?_
  refine ⟨hl.1, hl.2.1, fun i v hi => ?_⟩
  obtain ⟨h1, h2⟩ := zd_init av _ 0 i v hc hi
  rw [Nat.zero_add] at h1
  exact ⟨hc v h2, hl.2.2 (i, v) h1⟩
/-- the room of d frames -/
def zd_rm (d : Nat) : Room := { frames := d, cells := 0, slots := 0, locals := 40 * d }
/-- a field that the instruction of that number reads: object class ci, place k -/
def zd_F (cl : List vw_C) (Ts : List Cond) (own : String) (index ci k : Nat) : Prop :=
  ∃ (C : String) (T : u_T) (N : Nat), cl[ci]? = some (C, T, N) ∧ (∀ w ∈ u_ws C T N, w ∈ Ts) ∧ k < N ∧ (Cond.fieldLink own index (T k).1 (T k).2.1 (T k).2.2.1 ∈ Ts ∨ ∃ host, Cond.fieldLinkNest own index (T k).1 (T k).2.1 (T k).2.2.1 host ∈ Ts)
/-- an int field that the instruction of that number writes -/
def zd_FP (cl : List vw_C) (Ts : List Cond) (own : String) (index ci k : Nat) : Prop :=
  ∃ (C : String) (T : u_T) (N : Nat) (ty : Nat → FieldType), cl[ci]? = some (C, T, N) ∧ (∀ w ∈ u_ws C T N, w ∈ Ts) ∧ k < N ∧ (Cond.fieldLink own index (T k).1 (T k).2.1 (T k).2.2.1 ∈ Ts ∨ ∃ host, Cond.fieldLinkNest own index (T k).1 (T k).2.1 (T k).2.2.1 host ∈ Ts) ∧
    (∀ k, k < N → parseFieldDescriptor (T k).2.2.1 = some (ty k)) ∧ (∀ a, a < N → ∀ b, b < N → a ≠ b → (T a).2.1 ≠ (T b).2.1) ∧ (T k).2.2.2 = false ∧ parseFieldDescriptor (T k).2.2.1 = some .int
/-- what a call of y needs: the code, the link, the number of its parameters -/
def zd_C (Ts : List Cond) (own : String) (index : Nat) (y : MethodName) (bytes : ByteArray) (maxL : Nat) (r : Option FieldType) (n : Nat) : Prop :=
  Cond.code y bytes maxL r ∈ Ts ∧ Cond.initialized y.cls ∈ Ts ∧ (y.cls ≠ "java/lang/invoke/MethodHandle" ∧ y.cls ≠ "java/lang/invoke/VarHandle") ∧ (parseMethodDescriptor y.desc).map (fun d => d.parameters.length) = some n ∧ maxL ≤ 21 ∧
    (Cond.methodLink own index y ∈ Ts ∨ ∃ host, Cond.methodLinkNest own index y host ∈ Ts)
def zd_is (v0 : Option Value) (w0 : va_W) : Option Value → va_W → Prop := fun v w => v = v0 ∧ w = w0
section ZD
variable {Z : va_W → List (Option Value) → Nat → List Value → Prop} {l : Launch} {D : va_G} {cl : List vw_C} {tys : List (ClassId × FieldType)} {cc : ByteArray} {nL : Nat} {own : String} {Ts : List Cond} {R : Room} {ret : Option FieldType} {post : Option Value → va_W → Prop}
variable {ws : va_W} {L : List (Option Value)} {pc : Nat} {st : List Value}
theorem zd_iconst (E : zd_E Z l D cl tys cc nL own Ts R ret post) {n : Int} {v : Int32} (d : decode cc pc = .ok (.iconst n, 1)) (hv : Int32.ofInt n = v) (k : Z ws L (pc + 1) (.int v :: st)) : Z ws L pc st := by
  obtain ⟨p, e, s, m, args, below, meth, c, A, hx, hb, hml, hown, hts, hK, hr, hlk, rfl⟩ := E
  exact fun H locs ls hP hD hS hl => lv_iconst hx hb d hv (k H locs ls hP hD hS hl)
theorem zd_bipush (E : zd_E Z l D cl tys cc nL own Ts R ret post) {n : Int} {v : Int32} (d : decode cc pc = .ok (.bipush n, 2)) (hv : (Int8.ofInt n).toInt32 = v) (k : Z ws L (pc + 2) (.int v :: st)) : Z ws L pc st := by
  obtain ⟨p, e, s, m, args, below, meth, c, A, hx, hb, hml, hown, hts, hK, hr, hlk, rfl⟩ := E
  exact fun H locs ls hP hD hS hl => lv_bipush hx hb d hv (k H locs ls hP hD hS hl)
theorem zd_sipush (E : zd_E Z l D cl tys cc nL own Ts R ret post) {n : Int} {v : Int32} (d : decode cc pc = .ok (.sipush n, 3)) (hv : (Int16.ofInt n).toInt32 = v) (k : Z ws L (pc + 3) (.int v :: st)) : Z ws L pc st := by
  obtain ⟨p, e, s, m, args, below, meth, c, A, hx, hb, hml, hown, hts, hK, hr, hlk, rfl⟩ := E
  exact fun H locs ls hP hD hS hl => lv_sipush hx hb d hv (k H locs ls hP hD hS hl)
theorem zd_ldc (E : zd_E Z l D cl tys cc nL own Ts R ret post) {index : Nat} {v : Int32} (d : decode cc pc = .ok (.ldc index, 2)) (hc : Cond.constant own index v ∈ Ts) (k : Z ws L (pc + 2) (.int v :: st)) : Z ws L pc st := by
  obtain ⟨p, e, s, m, args, below, meth, c, A, hx, hb, hml, hown, hts, hK, hr, hlk, rfl⟩ := E
  exact fun H locs ls hP hD hS hl => lv_ldc hx hb hown (hts _ hc) d (k H locs ls hP hD hS hl)
theorem zd_iload_n (E : zd_E Z l D cl tys cc nL own Ts R ret post) {i : Fin 4} {x : Int32} (d : decode cc pc = .ok (.iload_n i, 1)) (h : L[(i : Nat)]? = some (some (.int x))) (k : Z ws L (pc + 1) (.int x :: st)) : Z ws L pc st := by
  obtain ⟨p, e, s, m, args, below, meth, c, A, hx, hb, hml, hown, hts, hK, hr, hlk, rfl⟩ := E
  exact fun H locs ls hP hD hS hl => lv_iload_n hx hb d rfl (hl.at h) (k H locs ls hP hD hS hl)
theorem zd_iload (E : zd_E Z l D cl tys cc nL own Ts R ret post) {i : Nat} {x : Int32} (d : decode cc pc = .ok (.iload i, 2)) (h : L[i]? = some (some (.int x))) (k : Z ws L (pc + 2) (.int x :: st)) : Z ws L pc st := by
  obtain ⟨p, e, s, m, args, below, meth, c, A, hx, hb, hml, hown, hts, hK, hr, hlk, rfl⟩ := E
  exact fun H locs ls hP hD hS hl => lv_iload hx hb d (hl.at h) (k H locs ls hP hD hS hl)
theorem zd_istore_n (E : zd_E Z l D cl tys cc nL own Ts R ret post) {i : Fin 4} {x : Int32} (d : decode cc pc = .ok (.istore_n i, 1)) (hn : (i : Nat) < nL) (k : Z ws (L.set i (some (.int x))) (pc + 1) st) : Z ws L pc (.int x :: st) := by
  obtain ⟨p, e, s, m, args, below, meth, c, A, hx, hb, hml, hown, hts, hK, hr, hlk, rfl⟩ := E
  exact fun H locs ls hP hD hS hl => lv_istore_n hx hb d rfl hl.has hn rfl (fun ls1 h1 => k H locs ls1 hP hD hS (hl.put rfl h1))
theorem zd_istore (E : zd_E Z l D cl tys cc nL own Ts R ret post) {i : Nat} {x : Int32} (d : decode cc pc = .ok (.istore i, 2)) (hn : i < nL) (k : Z ws (L.set i (some (.int x))) (pc + 2) st) : Z ws L pc (.int x :: st) := by
  obtain ⟨p, e, s, m, args, below, meth, c, A, hx, hb, hml, hown, hts, hK, hr, hlk, rfl⟩ := E
  exact fun H locs ls hP hD hS hl => lv_istore hx hb d hl.has hn rfl (fun ls1 h1 => k H locs ls1 hP hD hS (hl.put rfl h1))
theorem zd_aload_n (E : zd_E Z l D cl tys cc nL own Ts R ret post) {i : Fin 4} {x : Nat} (d : decode cc pc = .ok (.aload_n i, 1)) (h : L[(i : Nat)]? = some (some (.ref x))) (k : Z ws L (pc + 1) (.ref x :: st)) : Z ws L pc st := by
  obtain ⟨p, e, s, m, args, below, meth, c, A, hx, hb, hml, hown, hts, hK, hr, hlk, rfl⟩ := E
  exact fun H locs ls hP hD hS hl => lv_aload_n hx hb d rfl (hl.at h) (k H locs ls hP hD hS hl)
theorem zd_aload (E : zd_E Z l D cl tys cc nL own Ts R ret post) {i : Nat} {x : Nat} (d : decode cc pc = .ok (.aload i, 2)) (h : L[i]? = some (some (.ref x))) (k : Z ws L (pc + 2) (.ref x :: st)) : Z ws L pc st := by
  obtain ⟨p, e, s, m, args, below, meth, c, A, hx, hb, hml, hown, hts, hK, hr, hlk, rfl⟩ := E
  exact fun H locs ls hP hD hS hl => lv_aload hx hb d (hl.at h) (k H locs ls hP hD hS hl)
theorem zd_astore_n (E : zd_E Z l D cl tys cc nL own Ts R ret post) {i : Fin 4} {x : Nat} (d : decode cc pc = .ok (.astore_n i, 1)) (hn : (i : Nat) < nL) (k : Z ws (L.set i (some (.ref x))) (pc + 1) st) : Z ws L pc (.ref x :: st) := by
  obtain ⟨p, e, s, m, args, below, meth, c, A, hx, hb, hml, hown, hts, hK, hr, hlk, rfl⟩ := E
  exact fun H locs ls hP hD hS hl => lv_astore_n hx hb d rfl hl.has hn rfl (fun ls1 h1 => k H locs ls1 hP hD hS (hl.put rfl h1))
theorem zd_astore (E : zd_E Z l D cl tys cc nL own Ts R ret post) {i : Nat} {x : Nat} (d : decode cc pc = .ok (.astore i, 2)) (hn : i < nL) (k : Z ws (L.set i (some (.ref x))) (pc + 2) st) : Z ws L pc (.ref x :: st) := by
  obtain ⟨p, e, s, m, args, below, meth, c, A, hx, hb, hml, hown, hts, hK, hr, hlk, rfl⟩ := E
  exact fun H locs ls hP hD hS hl => lv_astore hx hb d hl.has hn rfl (fun ls1 h1 => k H locs ls1 hP hD hS (hl.put rfl h1))
theorem zd_iinc (E : zd_E Z l D cl tys cc nL own Ts R ret post) {i : Nat} {n : Int} {x v : Int32} (d : decode cc pc = .ok (.iinc i n, 3)) (h : L[i]? = some (some (.int x))) (hv : x + Int32.ofInt n = v) (hn : i < nL) (k : Z ws (L.set i (some (.int v))) (pc + 3) st) : Z ws L pc st := by
  obtain ⟨p, e, s, m, args, below, meth, c, A, hx, hb, hml, hown, hts, hK, hr, hlk, rfl⟩ := E
  intro H locs ls hP hD hS hl
  obtain ⟨k0, hk0⟩ := List.mem_iff_getElem?.mp (zd_pairs_mem.mpr h)
  exact lv_iinc hx hb d hl.has hk0 hv hn rfl (fun ls1 h1 => k H locs ls1 hP hD hS (hl.put rfl h1))
theorem zd_iadd (E : zd_E Z l D cl tys cc nL own Ts R ret post) {x y : Int32} (d : decode cc pc = .ok (.iadd, 1)) (k : Z ws L (pc + 1) (.int (x + y) :: st)) : Z ws L pc (.int y :: .int x :: st) := by
  obtain ⟨p, e, s, m, args, below, meth, c, A, hx, hb, hml, hown, hts, hK, hr, hlk, rfl⟩ := E
  exact fun H locs ls hP hD hS hl => lv_iadd hx hb d (k H locs ls hP hD hS hl)
theorem zd_isub (E : zd_E Z l D cl tys cc nL own Ts R ret post) {x y : Int32} (d : decode cc pc = .ok (.isub, 1)) (k : Z ws L (pc + 1) (.int (x - y) :: st)) : Z ws L pc (.int y :: .int x :: st) := by
  obtain ⟨p, e, s, m, args, below, meth, c, A, hx, hb, hml, hown, hts, hK, hr, hlk, rfl⟩ := E
  exact fun H locs ls hP hD hS hl => lv_isub hx hb d (k H locs ls hP hD hS hl)
theorem zd_imul (E : zd_E Z l D cl tys cc nL own Ts R ret post) {x y : Int32} (d : decode cc pc = .ok (.imul, 1)) (k : Z ws L (pc + 1) (.int (x * y) :: st)) : Z ws L pc (.int y :: .int x :: st) := by
  obtain ⟨p, e, s, m, args, below, meth, c, A, hx, hb, hml, hown, hts, hK, hr, hlk, rfl⟩ := E
  exact fun H locs ls hP hD hS hl => lv_imul hx hb d (k H locs ls hP hD hS hl)
theorem zd_iand (E : zd_E Z l D cl tys cc nL own Ts R ret post) {x y : Int32} (d : decode cc pc = .ok (.iand, 1)) (k : Z ws L (pc + 1) (.int (x &&& y) :: st)) : Z ws L pc (.int y :: .int x :: st) := by
  obtain ⟨p, e, s, m, args, below, meth, c, A, hx, hb, hml, hown, hts, hK, hr, hlk, rfl⟩ := E
  exact fun H locs ls hP hD hS hl => lv_iand hx hb d (k H locs ls hP hD hS hl)
theorem zd_ior (E : zd_E Z l D cl tys cc nL own Ts R ret post) {x y : Int32} (d : decode cc pc = .ok (.ior, 1)) (k : Z ws L (pc + 1) (.int (x ||| y) :: st)) : Z ws L pc (.int y :: .int x :: st) := by
  obtain ⟨p, e, s, m, args, below, meth, c, A, hx, hb, hml, hown, hts, hK, hr, hlk, rfl⟩ := E
  exact fun H locs ls hP hD hS hl => lv_ior hx hb d (k H locs ls hP hD hS hl)
theorem zd_ixor (E : zd_E Z l D cl tys cc nL own Ts R ret post) {x y : Int32} (d : decode cc pc = .ok (.ixor, 1)) (k : Z ws L (pc + 1) (.int (x ^^^ y) :: st)) : Z ws L pc (.int y :: .int x :: st) := by
  obtain ⟨p, e, s, m, args, below, meth, c, A, hx, hb, hml, hown, hts, hK, hr, hlk, rfl⟩ := E
  exact fun H locs ls hP hD hS hl => lv_ixor hx hb d (k H locs ls hP hD hS hl)
theorem zd_ishl (E : zd_E Z l D cl tys cc nL own Ts R ret post) {x y : Int32} (d : decode cc pc = .ok (.ishl, 1)) (k : Z ws L (pc + 1) (.int (x <<< (y &&& 31)) :: st)) : Z ws L pc (.int y :: .int x :: st) := by
  obtain ⟨p, e, s, m, args, below, meth, c, A, hx, hb, hml, hown, hts, hK, hr, hlk, rfl⟩ := E
  exact fun H locs ls hP hD hS hl => lv_ishl hx hb d (k H locs ls hP hD hS hl)
theorem zd_ishr (E : zd_E Z l D cl tys cc nL own Ts R ret post) {x y : Int32} (d : decode cc pc = .ok (.ishr, 1)) (k : Z ws L (pc + 1) (.int (x >>> (y &&& 31)) :: st)) : Z ws L pc (.int y :: .int x :: st) := by
  obtain ⟨p, e, s, m, args, below, meth, c, A, hx, hb, hml, hown, hts, hK, hr, hlk, rfl⟩ := E
  exact fun H locs ls hP hD hS hl => lv_ishr hx hb d (k H locs ls hP hD hS hl)
theorem zd_irem (E : zd_E Z l D cl tys cc nL own Ts R ret post) {x y : Int32} (d : decode cc pc = .ok (.irem, 1)) (hne : ¬ y = 0) (k : Z ws L (pc + 1) (.int (x - x / y * y) :: st)) : Z ws L pc (.int y :: .int x :: st) := by
  obtain ⟨p, e, s, m, args, below, meth, c, A, hx, hb, hml, hown, hts, hK, hr, hlk, rfl⟩ := E
  exact fun H locs ls hP hD hS hl => lv_irem hx hb d hne (k H locs ls hP hD hS hl)
theorem zd_dup (E : zd_E Z l D cl tys cc nL own Ts R ret post) {a : Value} (d : decode cc pc = .ok (.dup, 1)) (ha : a.category = 1) (k : Z ws L (pc + 1) (a :: a :: st)) : Z ws L pc (a :: st) := by
  obtain ⟨p, e, s, m, args, below, meth, c, A, hx, hb, hml, hown, hts, hK, hr, hlk, rfl⟩ := E
  exact fun H locs ls hP hD hS hl => lv_dup hx hb d ha (k H locs ls hP hD hS hl)
theorem zd_pop (E : zd_E Z l D cl tys cc nL own Ts R ret post) {a : Value} (d : decode cc pc = .ok (.pop, 1)) (ha : a.category = 1) (k : Z ws L (pc + 1) st) : Z ws L pc (a :: st) := by
  obtain ⟨p, e, s, m, args, below, meth, c, A, hx, hb, hml, hown, hts, hK, hr, hlk, rfl⟩ := E
  exact fun H locs ls hP hD hS hl => lv_pop hx hb d ha (k H locs ls hP hD hS hl)
theorem zd_dup_x1 (E : zd_E Z l D cl tys cc nL own Ts R ret post) {a b : Value} (d : decode cc pc = .ok (.dup_x1, 1)) (ha : a.category = 1) (hb1 : b.category = 1) (k : Z ws L (pc + 1) (a :: b :: a :: st)) : Z ws L pc (a :: b :: st) := by
  obtain ⟨p, e, s, m, args, below, meth, c, A, hx, hb, hml, hown, hts, hK, hr, hlk, rfl⟩ := E
  exact fun H locs ls hP hD hS hl => lv_dup_x1 hx hb d ha hb1 (k H locs ls hP hD hS hl)
theorem zd_dup_x2 (E : zd_E Z l D cl tys cc nL own Ts R ret post) {a b g : Value} (d : decode cc pc = .ok (.dup_x2, 1)) (ha : a.category = 1) (hb1 : b.category = 1) (hg : g.category = 1) (k : Z ws L (pc + 1) (a :: b :: g :: a :: st)) : Z ws L pc (a :: b :: g :: st) := by
  obtain ⟨p, e, s, m, args, below, meth, c, A, hx, hb, hml, hown, hts, hK, hr, hlk, rfl⟩ := E
  exact fun H locs ls hP hD hS hl => lv_dup_x2 hx hb d ha hb1 hg (k H locs ls hP hD hS hl)
theorem zd_dup2 (E : zd_E Z l D cl tys cc nL own Ts R ret post) {a b : Value} (d : decode cc pc = .ok (.dup2, 1)) (ha : a.category = 1) (hb1 : b.category = 1) (k : Z ws L (pc + 1) (a :: b :: a :: b :: st)) : Z ws L pc (a :: b :: st) := by
  obtain ⟨p, e, s, m, args, below, meth, c, A, hx, hb, hml, hown, hts, hK, hr, hlk, rfl⟩ := E
  exact fun H locs ls hP hD hS hl => lv_dup2_11 hx hb d ha hb1 (k H locs ls hP hD hS hl)
theorem zd_if_eq (E : zd_E Z l D cl tys cc nL own Ts R ret post) {x : Int32} {off : Int} (tgt : Nat) (d : decode cc pc = .ok (.ifCond .eq off, 3)) (ht : (pc : Int) + off = (tgt : Int)) (kt : x = 0 → Z ws L tgt st) (kf : ¬ (x = 0) → Z ws L (pc + 3) st) : Z ws L pc (.int x :: st) := by
  obtain ⟨p, e, s, m, args, below, meth, c, A, hx, hb, hml, hown, hts, hK, hr, hlk, rfl⟩ := E
  exact fun H locs ls hP hD hS hl => lv_if_eq hx hb d ht (fun h => kt (by first | exact h | simpa using h) H locs ls hP hD hS hl) (fun h => kf (by first | exact h | simpa using h) H locs ls hP hD hS hl)
theorem zd_ic_eq (E : zd_E Z l D cl tys cc nL own Ts R ret post) {x y : Int32} {off : Int} (tgt : Nat) (d : decode cc pc = .ok (.if_icmp .eq off, 3)) (ht : (pc : Int) + off = (tgt : Int)) (kt : x = y → Z ws L tgt st) (kf : ¬ (x = y) → Z ws L (pc + 3) st) : Z ws L pc (.int y :: .int x :: st) := by
  obtain ⟨p, e, s, m, args, below, meth, c, A, hx, hb, hml, hown, hts, hK, hr, hlk, rfl⟩ := E
  exact fun H locs ls hP hD hS hl => lv_icmp_eq hx hb d ht (fun h => kt (by first | exact h | simpa using h) H locs ls hP hD hS hl) (fun h => kf (by first | exact h | simpa using h) H locs ls hP hD hS hl)
theorem zd_if_ne (E : zd_E Z l D cl tys cc nL own Ts R ret post) {x : Int32} {off : Int} (tgt : Nat) (d : decode cc pc = .ok (.ifCond .ne off, 3)) (ht : (pc : Int) + off = (tgt : Int)) (kt : ¬ x = 0 → Z ws L tgt st) (kf : ¬ (¬ x = 0) → Z ws L (pc + 3) st) : Z ws L pc (.int x :: st) := by
  obtain ⟨p, e, s, m, args, below, meth, c, A, hx, hb, hml, hown, hts, hK, hr, hlk, rfl⟩ := E
  exact fun H locs ls hP hD hS hl => lv_if_ne hx hb d ht (fun h => kt (by first | exact h | simpa using h) H locs ls hP hD hS hl) (fun h => kf (by first | exact h | simpa using h) H locs ls hP hD hS hl)
theorem zd_ic_ne (E : zd_E Z l D cl tys cc nL own Ts R ret post) {x y : Int32} {off : Int} (tgt : Nat) (d : decode cc pc = .ok (.if_icmp .ne off, 3)) (ht : (pc : Int) + off = (tgt : Int)) (kt : ¬ x = y → Z ws L tgt st) (kf : ¬ (¬ x = y) → Z ws L (pc + 3) st) : Z ws L pc (.int y :: .int x :: st) := by
  obtain ⟨p, e, s, m, args, below, meth, c, A, hx, hb, hml, hown, hts, hK, hr, hlk, rfl⟩ := E
  exact fun H locs ls hP hD hS hl => lv_icmp_ne hx hb d ht (fun h => kt (by first | exact h | simpa using h) H locs ls hP hD hS hl) (fun h => kf (by first | exact h | simpa using h) H locs ls hP hD hS hl)
theorem zd_if_lt (E : zd_E Z l D cl tys cc nL own Ts R ret post) {x : Int32} {off : Int} (tgt : Nat) (d : decode cc pc = .ok (.ifCond .lt off, 3)) (ht : (pc : Int) + off = (tgt : Int)) (kt : x < 0 → Z ws L tgt st) (kf : ¬ (x < 0) → Z ws L (pc + 3) st) : Z ws L pc (.int x :: st) := by
  obtain ⟨p, e, s, m, args, below, meth, c, A, hx, hb, hml, hown, hts, hK, hr, hlk, rfl⟩ := E
  exact fun H locs ls hP hD hS hl => lv_if_lt hx hb d ht (fun h => kt (by first | exact h | simpa using h) H locs ls hP hD hS hl) (fun h => kf (by first | exact h | simpa using h) H locs ls hP hD hS hl)
theorem zd_ic_lt (E : zd_E Z l D cl tys cc nL own Ts R ret post) {x y : Int32} {off : Int} (tgt : Nat) (d : decode cc pc = .ok (.if_icmp .lt off, 3)) (ht : (pc : Int) + off = (tgt : Int)) (kt : x < y → Z ws L tgt st) (kf : ¬ (x < y) → Z ws L (pc + 3) st) : Z ws L pc (.int y :: .int x :: st) := by
  obtain ⟨p, e, s, m, args, below, meth, c, A, hx, hb, hml, hown, hts, hK, hr, hlk, rfl⟩ := E
  exact fun H locs ls hP hD hS hl => lv_icmp_lt hx hb d ht (fun h => kt (by first | exact h | simpa using h) H locs ls hP hD hS hl) (fun h => kf (by first | exact h | simpa using h) H locs ls hP hD hS hl)
theorem zd_if_ge (E : zd_E Z l D cl tys cc nL own Ts R ret post) {x : Int32} {off : Int} (tgt : Nat) (d : decode cc pc = .ok (.ifCond .ge off, 3)) (ht : (pc : Int) + off = (tgt : Int)) (kt : 0 ≤ x → Z ws L tgt st) (kf : ¬ (0 ≤ x) → Z ws L (pc + 3) st) : Z ws L pc (.int x :: st) := by
  obtain ⟨p, e, s, m, args, below, meth, c, A, hx, hb, hml, hown, hts, hK, hr, hlk, rfl⟩ := E
  exact fun H locs ls hP hD hS hl => lv_if_ge hx hb d ht (fun h => kt (by first | exact h | simpa using h) H locs ls hP hD hS hl) (fun h => kf (by first | exact h | simpa using h) H locs ls hP hD hS hl)
theorem zd_ic_ge (E : zd_E Z l D cl tys cc nL own Ts R ret post) {x y : Int32} {off : Int} (tgt : Nat) (d : decode cc pc = .ok (.if_icmp .ge off, 3)) (ht : (pc : Int) + off = (tgt : Int)) (kt : y ≤ x → Z ws L tgt st) (kf : ¬ (y ≤ x) → Z ws L (pc + 3) st) : Z ws L pc (.int y :: .int x :: st) := by
  obtain ⟨p, e, s, m, args, below, meth, c, A, hx, hb, hml, hown, hts, hK, hr, hlk, rfl⟩ := E
  exact fun H locs ls hP hD hS hl => lv_icmp_ge hx hb d ht (fun h => kt (by first | exact h | simpa using h) H locs ls hP hD hS hl) (fun h => kf (by first | exact h | simpa using h) H locs ls hP hD hS hl)
theorem zd_if_gt (E : zd_E Z l D cl tys cc nL own Ts R ret post) {x : Int32} {off : Int} (tgt : Nat) (d : decode cc pc = .ok (.ifCond .gt off, 3)) (ht : (pc : Int) + off = (tgt : Int)) (kt : 0 < x → Z ws L tgt st) (kf : ¬ (0 < x) → Z ws L (pc + 3) st) : Z ws L pc (.int x :: st) := by
  obtain ⟨p, e, s, m, args, below, meth, c, A, hx, hb, hml, hown, hts, hK, hr, hlk, rfl⟩ := E
  exact fun H locs ls hP hD hS hl => lv_if_gt hx hb d ht (fun h => kt (by first | exact h | simpa using h) H locs ls hP hD hS hl) (fun h => kf (by first | exact h | simpa using h) H locs ls hP hD hS hl)
theorem zd_ic_gt (E : zd_E Z l D cl tys cc nL own Ts R ret post) {x y : Int32} {off : Int} (tgt : Nat) (d : decode cc pc = .ok (.if_icmp .gt off, 3)) (ht : (pc : Int) + off = (tgt : Int)) (kt : y < x → Z ws L tgt st) (kf : ¬ (y < x) → Z ws L (pc + 3) st) : Z ws L pc (.int y :: .int x :: st) := by
  obtain ⟨p, e, s, m, args, below, meth, c, A, hx, hb, hml, hown, hts, hK, hr, hlk, rfl⟩ := E
  exact fun H locs ls hP hD hS hl => lv_icmp_gt hx hb d ht (fun h => kt (by first | exact h | simpa using h) H locs ls hP hD hS hl) (fun h => kf (by first | exact h | simpa using h) H locs ls hP hD hS hl)
theorem zd_if_le (E : zd_E Z l D cl tys cc nL own Ts R ret post) {x : Int32} {off : Int} (tgt : Nat) (d : decode cc pc = .ok (.ifCond .le off, 3)) (ht : (pc : Int) + off = (tgt : Int)) (kt : x ≤ 0 → Z ws L tgt st) (kf : ¬ (x ≤ 0) → Z ws L (pc + 3) st) : Z ws L pc (.int x :: st) := by
  obtain ⟨p, e, s, m, args, below, meth, c, A, hx, hb, hml, hown, hts, hK, hr, hlk, rfl⟩ := E
  exact fun H locs ls hP hD hS hl => lv_if_le hx hb d ht (fun h => kt (by first | exact h | simpa using h) H locs ls hP hD hS hl) (fun h => kf (by first | exact h | simpa using h) H locs ls hP hD hS hl)
theorem zd_ic_le (E : zd_E Z l D cl tys cc nL own Ts R ret post) {x y : Int32} {off : Int} (tgt : Nat) (d : decode cc pc = .ok (.if_icmp .le off, 3)) (ht : (pc : Int) + off = (tgt : Int)) (kt : x ≤ y → Z ws L tgt st) (kf : ¬ (x ≤ y) → Z ws L (pc + 3) st) : Z ws L pc (.int y :: .int x :: st) := by
  obtain ⟨p, e, s, m, args, below, meth, c, A, hx, hb, hml, hown, hts, hK, hr, hlk, rfl⟩ := E
  exact fun H locs ls hP hD hS hl => lv_icmp_le hx hb d ht (fun h => kt (by first | exact h | simpa using h) H locs ls hP hD hS hl) (fun h => kf (by first | exact h | simpa using h) H locs ls hP hD hS hl)
theorem zd_goto (E : zd_E Z l D cl tys cc nL own Ts R ret post) {off : Int} (tgt : Nat) (d : decode cc pc = .ok (.goto off, 3)) (ht : (pc : Int) + off = (tgt : Int)) (k : Z ws L tgt st) : Z ws L pc st := by
  obtain ⟨p, e, s, m, args, below, meth, c, A, hx, hb, hml, hown, hts, hK, hr, hlk, rfl⟩ := E
  exact fun H locs ls hP hD hS hl => lv_goto hx hb d ht (k H locs ls hP hD hS hl)
theorem zd_get (E : zd_E Z l D cl tys cc nL own Ts R ret post) {index ci i a : Nat} {fs : List Value} {v : Value} (d : decode cc pc = .ok (.getfield index, 3)) (F : zd_F cl Ts own index ci i) (j : Nat) (he : ws[j]? = some (a, .inr (ci, fs))) (hv : fs[i]? = some v) (k : Z ws L (pc + 3) (v :: st)) : Z ws L pc (.ref a :: st) := by
  obtain ⟨p, e, s, m, args, below, meth, c, A, hx, hb, hml, hown, hts, hK, hr, hlk, rfl⟩ := E
  obtain ⟨C, T, N, hc, hin, hk, hlink | ⟨host, hlink⟩⟩ := F
  · exact fun H locs ls hP hD hS hl => va_get hx hb hts hin hown hK hP j he hc i hk (hts _ hlink) (fun _ h => h) hv d (k H locs ls hP hD hS hl)
  · exact fun H locs ls hP hD hS hl => va_getN hx hb hts hin hown hK hP j he hc i hk (hts _ hlink) (fun _ h => h) hv d (k H locs ls hP hD hS hl)
theorem zd_put (E : zd_E Z l D cl tys cc nL own Ts R ret post) {index ci i a : Nat} {fs : List Value} {x : Int32} {ws1 : va_W} (d : decode cc pc = .ok (.putfield index, 3)) (F : zd_FP cl Ts own index ci i) (j : Nat) (he : ws[j]? = some (a, .inr (ci, fs))) (hl0 : i < fs.length) (hw : ws.set j (a, .inr (ci, fs.set i (.int x))) = ws1) (k : Z ws1 L (pc + 3) st) : Z ws L pc (.int x :: .ref a :: st) := by
  obtain ⟨p, e, s, m, args, below, meth, c, A, hx, hb, hml, hown, hts, hK, hr, hlk, rfl⟩ := E
  subst hw
  obtain ⟨C, T, N, ty, hc, hin, hk, hlink, hty, hnm, hfin, hpi⟩ := F
  rcases hlink with hlink | ⟨host, hlink⟩
  · exact fun H locs ls hP hD hS hl => va_put hx hb hts hin ty hty hnm hown hK hP hD hS j he hc i hk (hts _ hlink) (fun _ h => h) hfin (ty := .int) hpi rfl rfl hl0 d (fun H1 locs1 hP1 hD1 hS1 => k H1 locs1 ls hP1 hD1 hS1 hl)
  · exact fun H locs ls hP hD hS hl => va_putN hx hb hts hin ty hty hnm hown hK hP hD hS j he hc i hk (hts _ hlink) (fun _ h => h) hfin (ty := .int) hpi rfl rfl hl0 d (fun H1 locs1 hP1 hD1 hS1 => k H1 locs1 ls hP1 hD1 hS1 hl)
theorem zd_iald (E : zd_E Z l D cl tys cc nL own Ts R ret post) {a t0 N : Nat} {cA : ClassId} {f : Nat → Int32} {i : Int32} (d : decode cc pc = .ok (.iaload, 1)) (j : Nat) (ha : ws[j]? = some (a, .inl (cA, N, .inl f))) (ht : tys[t0]? = some (cA, .int)) (x : Nat) (hi : i = nI x) (hx1 : x < N) (hN : N < 2 ^ 31) (k : Z ws L (pc + 1) (.int (f x) :: st)) : Z ws L pc (.int i :: .ref a :: st) := by
  obtain ⟨p, e, s, m, args, below, meth, c, A, hx, hb, hml, hown, hts, hK, hr, hlk, rfl⟩ := E
  subst hi
  have e1 : (nI x).toNatClampNeg = x := nI_clamp (Nat.lt_trans hx1 hN)
  exact fun H locs ls hP hD hS hl => va_iald hx hb hK hP j t0 ha ht (vp_in_nI hx1 hN) d (by rw [e1]; exact k H locs ls hP hD hS hl)
theorem zd_zald (E : zd_E Z l D cl tys cc nL own Ts R ret post) {a t0 N : Nat} {cA : ClassId} {f : Nat → Int32} {i : Int32} (d : decode cc pc = .ok (.baload, 1)) (j : Nat) (ha : ws[j]? = some (a, .inl (cA, N, .inl f))) (ht : tys[t0]? = some (cA, .boolean)) (x : Nat) (hi : i = nI x) (hx1 : x < N) (hN : N < 2 ^ 31) (k : Z ws L (pc + 1) (.int (f x) :: st)) : Z ws L pc (.int i :: .ref a :: st) := by
  obtain ⟨p, e, s, m, args, below, meth, c, A, hx, hb, hml, hown, hts, hK, hr, hlk, rfl⟩ := E
  subst hi
  have e1 : (nI x).toNatClampNeg = x := nI_clamp (Nat.lt_trans hx1 hN)
  exact fun H locs ls hP hD hS hl => va_zald hx hb hK hP j t0 ha ht (vp_in_nI hx1 hN) d (by rw [e1]; exact k H locs ls hP hD hS hl)
theorem zd_iast (E : zd_E Z l D cl tys cc nL own Ts R ret post) {a t0 N : Nat} {cA : ClassId} {f : Nat → Int32} {i v : Int32} {ws1 : va_W} (d : decode cc pc = .ok (.iastore, 1)) (j : Nat) (ha : ws[j]? = some (a, .inl (cA, N, .inl f))) (ht : tys[t0]? = some (cA, .int)) (x : Nat) (hi : i = nI x) (hx1 : x < N) (hN : N < 2 ^ 31) (hw : ws.set j (a, .inl (cA, N, .inl (upd f x v))) = ws1) (k : Z ws1 L (pc + 1) st) : Z ws L pc (.int v :: .int i :: .ref a :: st) := by
  obtain ⟨p, e, s, m, args, below, meth, c, A, hx, hb, hml, hown, hts, hK, hr, hlk, rfl⟩ := E
  subst hi
  subst hw
  have e1 : (nI x).toNatClampNeg = x := nI_clamp (Nat.lt_trans hx1 hN)
  exact fun H locs ls hP hD hS hl => va_iast hx hb hK hP hD hS j t0 ha ht (vp_in_nI hx1 hN) d (by rw [e1]; exact fun H1 locs1 hP1 hD1 hS1 => k H1 locs1 ls hP1 hD1 hS1 hl)
theorem zd_aald (E : zd_E Z l D cl tys cc nL own Ts R ret post) {a t0 N b : Nat} {cA : ClassId} {f : Nat → Option Nat} {i : Int32} {ty : FieldType} (d : decode cc pc = .ok (.aaload, 1)) (j : Nat) (ha : ws[j]? = some (a, .inl (cA, N, .inr (.inr (.inr (.inr f)))))) (ht : tys[t0]? = some (cA, ty)) (hty : ty.isReference = true) (x : Nat) (hi : i = nI x) (hx1 : x < N) (hN : N < 2 ^ 31) (hf : f x = some b) (k : Z ws L (pc + 1) (.ref b :: st)) : Z ws L pc (.int i :: .ref a :: st) := by
  obtain ⟨p, e, s, m, args, below, meth, c, A, hx, hb, hml, hown, hts, hK, hr, hlk, rfl⟩ := E
  subst hi
  have e1 : (nI x).toNatClampNeg = x := nI_clamp (Nat.lt_trans hx1 hN)
  have hin : vp_in (nI x) N := vp_in_nI hx1 hN
  have hlt : (nI x).toNatClampNeg < N := by rw [e1]; exact hx1
  exact fun H locs ls hP hD hS hl => W.aald (v := .ref b) (ty := ty) hx hb (hP j _ ha) ((hK.2 t0 _ ht).1 N (fun q => va_rf (f q))) hty (fun q => by cases q) (by show ¬ (nI x < 0 ∨ (arrV _ _ _).slots.size ≤ _); rw [arrV_size]; exact hin) (by show (arrV _ _ _).slots[_]? = _; rw [arrV_read _ _ hlt, e1, hf]; rfl) rfl rfl d (k H locs ls hP hD hS hl)
theorem zd_alen (E : zd_E Z l D cl tys cc nL own Ts R ret post) {a t0 : Nat} {cA : ClassId} {y : vp_A} {ty : FieldType} {v : Int32} (d : decode cc pc = .ok (.arraylength, 1)) (j : Nat) (ha : ws[j]? = some (a, .inl (cA, y))) (ht : tys[t0]? = some (cA, ty)) (hv : Int32.ofNat y.1 = v) (k : Z ws L (pc + 1) (.int v :: st)) : Z ws L pc (.ref a :: st) := by
  obtain ⟨p, e, s, m, args, below, meth, c, A, hx, hb, hml, hown, hts, hK, hr, hlk, rfl⟩ := E
  exact fun H locs ls hP hD hS hl => va_alen hx hb hK hP j t0 ha ht hv d (k H locs ls hP hD hS hl)
theorem zd_iret (E : zd_E Z l D cl tys cc nL own Ts R (some .int) post) {v : Int32} (d : decode cc pc = .ok (.ireturn, 1)) (h : post (some (.int v)) ws) : Z ws L pc [.int v] := by
  obtain ⟨p, e, s, m, args, below, meth, c, A, hx, hb, hml, hown, hts, hK, hr, hlk, rfl⟩ := E
  exact fun H locs ls hP hD hS hl => W.iret (v := v) hx hb hr (fun t ht hW => ⟨⟨some (.int v), ws, rfl, h, by rw [ht]; exact hP, hD, va_K.moved hW.alike hK⟩, hS.F ht⟩) hS.2.2 d hlk
theorem zd_zret (E : zd_E Z l D cl tys cc nL own Ts R (some .boolean) post) {v : Int32} (d : decode cc pc = .ok (.ireturn, 1)) (hn : narrow .boolean (.int v) = .int v) (h : post (some (.int v)) ws) : Z ws L pc [.int v] := by
  obtain ⟨p, e, s, m, args, below, meth, c, A, hx, hb, hml, hown, hts, hK, hr, hlk, rfl⟩ := E
  exact fun H locs ls hP hD hS hl => W.zret (v := v) hx hb hr hn (fun t ht hW => ⟨⟨some (.int v), ws, rfl, h, by rw [ht]; exact hP, hD, va_K.moved hW.alike hK⟩, hS.F ht⟩) hS.2.2 d hlk
theorem zd_vret (E : zd_E Z l D cl tys cc nL own Ts R none post) (d : decode cc pc = .ok (.return_, 1)) (h : post none ws) : Z ws L pc [] := by
  obtain ⟨p, e, s, m, args, below, meth, c, A, hx, hb, hml, hown, hts, hK, hr, hlk, rfl⟩ := E
  exact fun H locs ls hP hD hS hl => W.vret hx hb hr (fun t ht hW => ⟨⟨none, ws, rfl, h, by rw [ht]; exact hP, hD, va_K.moved hW.alike hK⟩, hS.F ht⟩) hS.2.2 d hlk
theorem zd_less (E : zd_E Z l D cl tys cc nL own Ts R ret post) {L' : List (Option Value)} (hl0 : zd_le L' L) (k : Z ws L' pc st) : Z ws L pc st := by
  obtain ⟨p, e, s, m, args, below, meth, c, A, hx, hb, hml, hown, hts, hK, hr, hlk, rfl⟩ := E
  exact fun H locs ls hP hD hS hl => k H locs ls hP hD hS (hl.less hl0)
theorem zd_mmax (E : zd_E Z l D cl tys cc nL own Ts R ret post) {index : Nat} {x y : Int32} (d : decode cc pc = .ok (.invokestatic index, 3)) (h1 : Cond.methodLink own index Lib.Math.max.name ∈ Ts) (h2 : Cond.static Lib.Math.max.name ∈ Ts) (h3 : Cond.initialized "java/lang/Math" ∈ Ts) (h4 : Cond.code Lib.Math.max.name Lib.Math.max.code 2 (some .int) ∈ Ts) (hR : 1 ≤ R.frames ∧ 21 ≤ R.locals) (hW : (st.map fun v => v.category).sum ≤ 8) (k : Z ws L (pc + 3) (.int (if x < y then y else x) :: st)) : Z ws L pc (.int y :: .int x :: st) := by
  obtain ⟨p, e, s, m, args, below, meth, c, A, hx, hb, hml, hown, hts, hK, hr, hlk, rfl⟩ := E
  exact fun H locs ls hP hD hS hl => va_mmax hx hb (hml.trans hl.1.symm) hown (hts _ h1) (hts _ h2) (hts _ h3) (hts _ h4) hR.1 (by omega) (Nat.zero_le _) (Nat.zero_le _) d (k H locs ls hP hD hS hl)
theorem zd_mmin (E : zd_E Z l D cl tys cc nL own Ts R ret post) {index : Nat} {x y : Int32} (d : decode cc pc = .ok (.invokestatic index, 3)) (h1 : Cond.methodLink own index Lib.Math.min.name ∈ Ts) (h2 : Cond.static Lib.Math.min.name ∈ Ts) (h3 : Cond.initialized "java/lang/Math" ∈ Ts) (h4 : Cond.code Lib.Math.min.name Lib.Math.min.code 2 (some .int) ∈ Ts) (hR : 1 ≤ R.frames ∧ 21 ≤ R.locals) (hW : (st.map fun v => v.category).sum ≤ 8) (k : Z ws L (pc + 3) (.int (if y < x then y else x) :: st)) : Z ws L pc (.int y :: .int x :: st) := by
  obtain ⟨p, e, s, m, args, below, meth, c, A, hx, hb, hml, hown, hts, hK, hr, hlk, rfl⟩ := E
  exact fun H locs ls hP hD hS hl => va_mmin hx hb (hml.trans hl.1.symm) hown (hts _ h1) (hts _ h2) (hts _ h3) (hts _ h4) hR.1 (by omega) (Nat.zero_le _) (Nat.zero_le _) d (k H locs ls hP hD hS hl)
theorem zd_run {p : Program} {e : Env} {s : State} {m : MethodId} {args : Array Value} {below : List Frame} {meth : Method} {c : Code} {A : Nat → Prop} {H : Heap} {locs : List Loc} {ls : Array Slot} {st0 : List Value} {a : Array Value} {post1 : Option Value → va_W → Prop} {Q : State → Prop}
    (hr : va_Run p l e R s m args below meth c H locs 0 0 0 0 (F0 m pc ls st0) st (zd_Q D cl tys (zd_A ws) post1 a) (zd_A ws)) (hD : va_D A ws) (hS : va_S A s.heap H locs)
    (kk : ∀ (v : Option Value) (ws1 : va_W) (H1 : Heap) (locs1 : List Loc), post1 v ws1 → va_P D cl ws1 H1 → va_D A ws1 → va_S A s.heap H1 locs1 → W p l e R s m args below meth c H1 locs1 0 0 Q (F0 m (pc + 3) ls (v.toList ++ st))) : W p l e R s m args below meth c H locs 0 0 Q (F0 m pc ls st0) := by
  intro T hT X
  obtain ⟨v, st₀, t, T', L1, h0, X', hL, e1, e2, ⟨⟨v1, ws1, hv, hp, hPw, hDw, hKw⟩, hz, hk⟩, go⟩ := hr T hT X
  cases hv
  rw [h0] at hz hk
  have hAA : ∀ q, zd_A ws q → A q := fun q h => by
    obtain ⟨k, e, hk⟩ := h
    exact hD.2 k _ hk
  obtain ⟨t2, a1, b1⟩ := kk v ws1 T'.heap (locs ++ L1) hp (by rw [e1]; exact hPw) (hDw.weaken (fun k q _ hq => hAA _ hq))
    ⟨Nat.le_trans hS.1 (by rw [e1]; exact hz), fun q h1 h2 => by rw [e1, hk q (Nat.lt_of_lt_of_le h1 hS.1) (fun z => h2 (hAA q z))]; exact hS.2.1 q h1 h2, fun q hq => by
      rcases List.mem_append.mp hq with h | h
      · exact hS.2.2 q h
      · exact hAA _ (hL q h)⟩ T' rfl X'
  exact ⟨t2, go t2 a1, b1⟩
theorem zd_blind {cl : List vw_C} {D : va_G} {tys : List (ClassId × FieldType)} {av : List Value} {ws : va_W} {Ts : List Cond} : FrameBlind (va_Pc av (fun U => va_P D cl ws U.heap ∧ va_K D cl tys U ∧ va_D (fun _ => True) ws ∧ zd_N Ts U)) := fun a U g mk q => by
  obtain ⟨q0, qP, qK, qD, qN⟩ := q
  exact ⟨q0, qP, va_K.moved (u := U) (U := U.calling g mk a) (Vm.Alike.refl U.vm) qK, qD, zd_N.same (s := U) (U := U.calling g mk a) rfl qN⟩
theorem zd_at {s : State} {H : Heap} {cl : List vw_C} {D : va_G} {tys : List (ClassId × FieldType)} {av : List Value} {ws : va_W} {A : Nat → Prop} {args : Array Value} {Ts : List Cond} (hts : ∀ w ∈ Ts, w.before args s = true) (hP : va_P D cl ws H) (hK : va_K D cl tys s) (hD : va_D A ws) : ∀ U : State, U.heap = H → s.WarmedH U.vm → va_Pc av (fun U => va_P D cl ws U.heap ∧ va_K D cl tys U ∧ va_D (fun _ => True) ws ∧ zd_N Ts U) av.toArray U := fun U hU hW =>
  ⟨rfl, by rw [hU]; exact hP, va_K.moved hW.alike hK, hD.weaken (fun _ _ _ _ => trivial), zd_N.warm hW (fun w hw hn => zd_nof hn (hts w hw))⟩
theorem zd_good {Ts : List Cond} {y : MethodName} {bytes : ByteArray} {maxL : Nat} {r : Option FieldType} (h : Cond.code y bytes maxL r ∈ Ts) : GoodIn Ts (zd_wy y bytes maxL r Ts) := by
  intro w hw
  rcases List.mem_cons.mp hw with rfl | hw
  · exact ⟨h, good_of_word rfl⟩
  · obtain ⟨h1, h2⟩ := List.mem_filter.mp hw
    exact ⟨h1, good_of_word h2⟩
theorem zd_callS {dd : Nat} (E : zd_E Z l D cl tys cc nL own Ts (zd_rm dd) ret post) {index maxL n da : Nat} {y : MethodName} {bytes : ByteArray} {r1 : Option FieldType} {av st0 : List Value} {post1 : Option Value → va_W → Prop} (d : decode cc pc = .ok (.invokestatic index, 3)) (F : zd_C Ts own index y bytes maxL r1 n) (hst : st0 = av.reverse ++ st) (hstat : Cond.static y ∈ Ts) (C : zd_Ct l D cl tys Ts y bytes maxL r1 (zd_rm da) av ws post1) (hd : da + 1 ≤ dd) (hn : av.length = n) (hW : (st.map fun v => v.category).sum ≤ 8) (kk : ∀ (v : Option Value) (ws1 : va_W), post1 v ws1 → Z ws1 L (pc + 3) (v.toList ++ st)) : Z ws L pc st0 := by
  obtain ⟨p, e, s, m, args, below, meth, c, A, hx, hb, hml, hown, hts, hK, hr, hlk, rfl⟩ := E
  obtain ⟨hcode, hini, hmh, hpar, hmx, hlink | ⟨host, hlink⟩⟩ := F
  · exact fun H locs ls hP hD hS hl => zd_run (va_runS (As := av) (rest := st) ⟨hx, hb, hml, hown, hts⟩ C ⟨callB_of n hts (zd_good hcode) rfl rfl rfl (hts _ hini) (hts _ hlink) ⟨hmh.1, hmh.2, hpar⟩ (show (zd_rm da).frames + 1 ≤ (zd_rm dd).frames ∧ 8 + (maxL + 11) + (zd_rm da).locals ≤ (zd_rm dd).locals from ⟨hd, by show 8 + (maxL + 11) + 40 * da ≤ 40 * dd; omega⟩), hts _ hstat⟩ ⟨zd_blind, zd_at hts hP hK hD⟩ rfl hn hl.1 hst (lv_room hW) d ⟨Nat.zero_le _, Nat.zero_le _⟩) hD hS (fun v ws1 H1 locs1 hp hP1 hD1 hS1 => kk v ws1 hp H1 locs1 ls hP1 hD1 hS1 hl)
  · exact fun H locs ls hP hD hS hl => zd_run (va_runSN (As := av) (rest := st) ⟨hx, hb, hml, hown, hts⟩ C ⟨va_cnB n hts (zd_good hcode) rfl rfl rfl (va_Nw.of rfl (hts _ hlink)) (hts _ hini) ⟨hmh.1, hmh.2, hpar⟩ (show (zd_rm da).frames + 1 ≤ (zd_rm dd).frames ∧ 8 + (maxL + 11) + (zd_rm da).locals ≤ (zd_rm dd).locals from ⟨hd, by show 8 + (maxL + 11) + 40 * da ≤ 40 * dd; omega⟩), hts _ hstat, trivial⟩ ⟨zd_blind, zd_at hts hP hK hD⟩ rfl hn hl.1 hst (lv_room hW) d ⟨Nat.zero_le _, Nat.zero_le _⟩) hD hS (fun v ws1 H1 locs1 hp hP1 hD1 hS1 => kk v ws1 hp H1 locs1 ls hP1 hD1 hS1 hl)
theorem zd_callV {dd : Nat} (E : zd_E Z l D cl tys cc nL own Ts (zd_rm dd) ret post) {ci b : Nat} {T1 : u_T} {N1 : Nat} {fs : List Value} {index maxL n da : Nat} {y : MethodName} {bytes : ByteArray} {r1 : Option FieldType} {av st0 : List Value} {post1 : Option Value → va_W → Prop} (d : decode cc pc = .ok (.invokevirtual index, 3)) (F : zd_C Ts own index y bytes maxL r1 n) (hst : st0 = av.reverse ++ .ref b :: st) (hinst : Cond.instanceMethod y ∈ Ts) (hsel : Cond.selects y.cls y y ∈ Ts) (j : Nat) (he : ws[j]? = some (b, .inr (ci, fs))) (hc : cl[ci]? = some (y.cls, T1, N1)) (C : zd_Ct l D cl tys Ts y bytes maxL r1 (zd_rm da) (.ref b :: av) ws post1) (hd : da + 1 ≤ dd) (hn : av.length = n) (hW : (st.map fun v => v.category).sum ≤ 8) (kk : ∀ (v : Option Value) (ws1 : va_W), post1 v ws1 → Z ws1 L (pc + 3) (v.toList ++ st)) : Z ws L pc st0 := by
  obtain ⟨p, e, s, m, args, below, meth, c, A, hx, hb, hml, hown, hts, hK, hr, hlk, rfl⟩ := E
  obtain ⟨hcode, hini, hmh, hpar, hmx, hlink | ⟨host, hlink⟩⟩ := F
  · exact fun H locs ls hP hD hS hl => zd_run (va_runV (As := av) (rest := st) (C := y.cls) ⟨hx, hb, hml, hown, hts⟩ C ⟨callB_of n hts (zd_good hcode) rfl rfl rfl (hts _ hini) (hts _ hlink) ⟨hmh.1, hmh.2, hpar⟩ (show (zd_rm da).frames + 1 ≤ (zd_rm dd).frames ∧ 8 + (maxL + 11) + (zd_rm da).locals ≤ (zd_rm dd).locals from ⟨hd, by show 8 + (maxL + 11) + 40 * da ≤ 40 * dd; omega⟩), hts _ hinst, hts _ hsel⟩ ⟨zd_blind, va_recv hK hP hc he, zd_at hts hP hK hD⟩ rfl hn hl.1 hst (lv_room hW) d ⟨Nat.zero_le _, Nat.zero_le _⟩) hD hS (fun v ws1 H1 locs1 hp hP1 hD1 hS1 => kk v ws1 hp H1 locs1 ls hP1 hD1 hS1 hl)
  · exact fun H locs ls hP hD hS hl => zd_run (va_runVN (As := av) (rest := st) (C := y.cls) ⟨hx, hb, hml, hown, hts⟩ C ⟨va_cnB n hts (zd_good hcode) rfl rfl rfl (va_Nw.of rfl (hts _ hlink)) (hts _ hini) ⟨hmh.1, hmh.2, hpar⟩ (show (zd_rm da).frames + 1 ≤ (zd_rm dd).frames ∧ 8 + (maxL + 11) + (zd_rm da).locals ≤ (zd_rm dd).locals from ⟨hd, by show 8 + (maxL + 11) + 40 * da ≤ 40 * dd; omega⟩), hts _ hinst, hts _ hsel⟩ ⟨zd_blind, va_recv hK hP hc he, zd_at hts hP hK hD⟩ rfl hn hl.1 hst (lv_room hW) d ⟨Nat.zero_le _, Nat.zero_le _⟩) hD hS (fun v ws1 H1 locs1 hp hP1 hD1 hS1 => kk v ws1 hp H1 locs1 ls hP1 hD1 hS1 hl)
theorem zd_nc_eq (E : zd_E Z l D cl tys cc nL own Ts R ret post) {a b : Nat} {off : Int} (tgt : Nat) (d : decode cc pc = .ok (.if_icmp .eq off, 3)) (ht : (pc : Int) + off = (tgt : Int)) (ha : a < 2 ^ 31) (hb : b < 2 ^ 31) (kt : a = b → Z ws L tgt st) (kf : a ≠ b → Z ws L (pc + 3) st) : Z ws L pc (.int (nI b) :: .int (nI a) :: st) :=
  zd_ic_eq E tgt d ht (fun h => kt ((nI_eq ha hb).mp h)) (fun h => kf (fun z => h ((nI_eq ha hb).mpr z)))
theorem zd_nc_ne (E : zd_E Z l D cl tys cc nL own Ts R ret post) {a b : Nat} {off : Int} (tgt : Nat) (d : decode cc pc = .ok (.if_icmp .ne off, 3)) (ht : (pc : Int) + off = (tgt : Int)) (ha : a < 2 ^ 31) (hb : b < 2 ^ 31) (kt : a ≠ b → Z ws L tgt st) (kf : a = b → Z ws L (pc + 3) st) : Z ws L pc (.int (nI b) :: .int (nI a) :: st) :=
  zd_ic_ne E tgt d ht (fun h => kt (fun z => h ((nI_eq ha hb).mpr z))) (fun h => kf (Classical.byContradiction fun z => h (fun y => z ((nI_eq ha hb).mp y))))
theorem zd_nc_lt (E : zd_E Z l D cl tys cc nL own Ts R ret post) {a b : Nat} {off : Int} (tgt : Nat) (d : decode cc pc = .ok (.if_icmp .lt off, 3)) (ht : (pc : Int) + off = (tgt : Int)) (ha : a < 2 ^ 31) (hb : b < 2 ^ 31) (kt : a < b → Z ws L tgt st) (kf : b ≤ a → Z ws L (pc + 3) st) : Z ws L pc (.int (nI b) :: .int (nI a) :: st) :=
  zd_ic_lt E tgt d ht (fun h => kt ((nI_ltI ha hb).mp h)) (fun h => kf (Nat.not_lt.mp (fun z => h ((nI_ltI ha hb).mpr z))))
theorem zd_nc_ge (E : zd_E Z l D cl tys cc nL own Ts R ret post) {a b : Nat} {off : Int} (tgt : Nat) (d : decode cc pc = .ok (.if_icmp .ge off, 3)) (ht : (pc : Int) + off = (tgt : Int)) (ha : a < 2 ^ 31) (hb : b < 2 ^ 31) (kt : b ≤ a → Z ws L tgt st) (kf : a < b → Z ws L (pc + 3) st) : Z ws L pc (.int (nI b) :: .int (nI a) :: st) :=
  zd_ic_ge E tgt d ht (fun h => kt ((nI_leI hb ha).mp h)) (fun h => kf (Nat.not_le.mp (fun z => h ((nI_leI hb ha).mpr z))))
theorem zd_nc_gt (E : zd_E Z l D cl tys cc nL own Ts R ret post) {a b : Nat} {off : Int} (tgt : Nat) (d : decode cc pc = .ok (.if_icmp .gt off, 3)) (ht : (pc : Int) + off = (tgt : Int)) (ha : a < 2 ^ 31) (hb : b < 2 ^ 31) (kt : b < a → Z ws L tgt st) (kf : a ≤ b → Z ws L (pc + 3) st) : Z ws L pc (.int (nI b) :: .int (nI a) :: st) :=
  zd_ic_gt E tgt d ht (fun h => kt ((nI_ltI hb ha).mp h)) (fun h => kf (Nat.not_lt.mp (fun z => h ((nI_ltI hb ha).mpr z))))
theorem zd_nc_le (E : zd_E Z l D cl tys cc nL own Ts R ret post) {a b : Nat} {off : Int} (tgt : Nat) (d : decode cc pc = .ok (.if_icmp .le off, 3)) (ht : (pc : Int) + off = (tgt : Int)) (ha : a < 2 ^ 31) (hb : b < 2 ^ 31) (kt : a ≤ b → Z ws L tgt st) (kf : b < a → Z ws L (pc + 3) st) : Z ws L pc (.int (nI b) :: .int (nI a) :: st) :=
  zd_ic_le E tgt d ht (fun h => kt ((nI_leI ha hb).mp h)) (fun h => kf (Nat.not_le.mp (fun z => h ((nI_leI ha hb).mpr z))))
theorem zd_bf_eq (E : zd_E Z l D cl tys cc nL own Ts R ret post) {P : Prop} [Decidable P] {off : Int} (tgt : Nat) (d : decode cc pc = .ok (.ifCond .eq off, 3)) (ht : (pc : Int) + off = (tgt : Int)) (kt : ¬ P → Z ws L tgt st) (kf : P → Z ws L (pc + 3) st) : Z ws L pc (.int (nI (if P then 1 else 0)) :: st) := by
  refine zd_if_eq E tgt d ht (fun h => ?_) (fun h => ?_)
  · by_cases p : P
    · rw [if_pos p] at h; first | exact kt p | exact absurd h (by decide)
    · rw [if_neg p] at h; first | exact kt p | exact absurd h (by decide)
  · by_cases p : P
    · rw [if_pos p] at h; first | exact kf p | exact absurd h (by decide)
    · rw [if_neg p] at h; first | exact kf p | exact absurd h (by decide)
theorem zd_bf_ne (E : zd_E Z l D cl tys cc nL own Ts R ret post) {P : Prop} [Decidable P] {off : Int} (tgt : Nat) (d : decode cc pc = .ok (.ifCond .ne off, 3)) (ht : (pc : Int) + off = (tgt : Int)) (kt : P → Z ws L tgt st) (kf : ¬ P → Z ws L (pc + 3) st) : Z ws L pc (.int (nI (if P then 1 else 0)) :: st) := by
  refine zd_if_ne E tgt d ht (fun h => ?_) (fun h => ?_)
  · by_cases p : P
    · rw [if_pos p] at h; first | exact kt p | exact absurd h (by decide)
    · rw [if_neg p] at h; first | exact kt p | exact absurd h (by decide)
  · by_cases p : P
    · rw [if_pos p] at h; first | exact kf p | exact absurd h (by decide)
    · rw [if_neg p] at h; first | exact kf p | exact absurd h (by decide)
end ZD
end
section
/-! Names: classes, fields, methods, words. By names.py. -/
def gd_T : List Cond := lw_tbl.filter zd_ok
theorem gd_all : zd_G gd_T := fun w hw => by
  have h := (List.mem_filter.mp hw).2
  unfold zd_ok at h
  simpa using h
theorem gd_in {w : Cond} (i : Nat) (h : tables_1[i]? = some w) (g : zd_ok w = true) : w ∈ gd_T := List.mem_filter.mpr ⟨List.mem_append_right _ (List.mem_of_getElem? h), g⟩
theorem gd_in1 {w : Cond} (i : Nat) (h : tables_1_1[i]? = some w) (g : zd_ok w = true) : w ∈ gd_T := List.mem_filter.mpr ⟨List.mem_append_right _ (List.mem_append_left _ (List.mem_of_getElem? h)), g⟩
theorem gd_in2 {w : Cond} (i : Nat) (h : tables_1_2[i]? = some w) (g : zd_ok w = true) : w ∈ gd_T := List.mem_filter.mpr ⟨List.mem_append_right _ (List.mem_append_right _ (List.mem_append_left _ (List.mem_of_getElem? h))), g⟩
theorem gd_in3 {w : Cond} (i : Nat) (h : tables_1_3[i]? = some w) (g : zd_ok w = true) : w ∈ gd_T := List.mem_filter.mpr ⟨List.mem_append_right _ (List.mem_append_right _ (List.mem_append_right _ (List.mem_append_left _ (List.mem_of_getElem? h)))), g⟩
theorem gd_in4 {w : Cond} (i : Nat) (h : tables_1_4[i]? = some w) (g : zd_ok w = true) : w ∈ gd_T := List.mem_filter.mpr ⟨List.mem_append_right _ (List.mem_append_right _ (List.mem_append_right _ (List.mem_append_right _ (List.mem_of_getElem? h)))), g⟩
theorem gd_sel {y : MethodName} {n : Nat} (i : Nat) (h : lw_privs[i]? = some (y, n)) : Cond.selects y.cls y y ∈ gd_T := List.mem_filter.mpr ⟨List.mem_append_left _ (List.mem_map.mpr ⟨(y, n), List.mem_of_getElem? h, rfl⟩), rfl⟩
def R_P : String := "CutPlanner"
def F_P : u_T := fun k => match k with
  | 0 => ("CutPlanner", "task", "LCutPlanner$Task;", true)
  | 1 => ("CutPlanner", "search", "LCutPlanner$Search;", true)
  | 2 => ("CutPlanner", "best", "LCutPlanner$Row;", true)
  | 3 => ("CutPlanner", "drafted", "LCutPlanner$Row;", true)
  | 4 => ("CutPlanner", "levels", "LCutPlanner$Levels;", true)
  | 5 => ("CutPlanner", "cutting", "LCutPlanner$Cuts;", true)
  | _ => ("CutPlanner", "state", "I", false)
def ft_P : Nat → FieldType := fun k => match k with
  | 0 => .object "CutPlanner$Task"
  | 1 => .object "CutPlanner$Search"
  | 2 => .object "CutPlanner$Row"
  | 3 => .object "CutPlanner$Row"
  | 4 => .object "CutPlanner$Levels"
  | 5 => .object "CutPlanner$Cuts"
  | _ => .int
theorem n_P : ∀ a, a < 7 → ∀ b, b < 7 → a ≠ b → (F_P a).2.1 ≠ (F_P b).2.1 := by decide +kernel
theorem to_P : ∀ k, k < 7 → parseFieldDescriptor (F_P k).2.2.1 = some (ft_P k) := by decide +kernel
theorem wi_P : ∀ w ∈ u_ws R_P F_P 7, w ∈ gd_T := by
  intro w hw
  obtain ⟨i, hi, rfl⟩ := List.mem_map.mp hw
  have hi := List.mem_range.mp hi
  match i, hi with
  | 0, _ => exact gd_in1 163 (by decide +kernel) (by decide +kernel)
  | 1, _ => exact gd_in1 165 (by decide +kernel) (by decide +kernel)
  | 2, _ => exact gd_in1 167 (by decide +kernel) (by decide +kernel)
  | 3, _ => exact gd_in1 169 (by decide +kernel) (by decide +kernel)
  | 4, _ => exact gd_in1 171 (by decide +kernel) (by decide +kernel)
  | 5, _ => exact gd_in1 173 (by decide +kernel) (by decide +kernel)
  | 6, _ => exact gd_in1 175 (by decide +kernel) (by decide +kernel)
  | k + 7, h => omega
def R_T : String := "CutPlanner$Task"
def F_T : u_T := fun k => match k with
  | 0 => ("CutPlanner$Task", "costs", "[I", true)
  | 1 => ("CutPlanner$Task", "links", "[[I", true)
  | 2 => ("CutPlanner$Task", "facts", "I", false)
  | 3 => ("CutPlanner$Task", "actions", "I", false)
  | 4 => ("CutPlanner$Task", "first", "I", false)
  | _ => ("CutPlanner$Task", "goal", "I", false)
def ft_T : Nat → FieldType := fun k => match k with
  | 0 => .array .int
  | 1 => .array (.array .int)
  | 2 => .int
  | 3 => .int
  | 4 => .int
  | _ => .int
theorem n_T : ∀ a, a < 6 → ∀ b, b < 6 → a ≠ b → (F_T a).2.1 ≠ (F_T b).2.1 := by decide +kernel
theorem to_T : ∀ k, k < 6 → parseFieldDescriptor (F_T k).2.2.1 = some (ft_T k) := by decide +kernel
theorem wi_T : ∀ w ∈ u_ws R_T F_T 6, w ∈ gd_T := by
  intro w hw
  obtain ⟨i, hi, rfl⟩ := List.mem_map.mp hw
  have hi := List.mem_range.mp hi
  match i, hi with
  | 0, _ => exact gd_in1 53 (by decide +kernel) (by decide +kernel)
  | 1, _ => exact gd_in1 55 (by decide +kernel) (by decide +kernel)
  | 2, _ => exact gd_in1 57 (by decide +kernel) (by decide +kernel)
  | 3, _ => exact gd_in1 59 (by decide +kernel) (by decide +kernel)
  | 4, _ => exact gd_in1 61 (by decide +kernel) (by decide +kernel)
  | 5, _ => exact gd_in1 63 (by decide +kernel) (by decide +kernel)
  | k + 6, h => omega
def R_R : String := "CutPlanner$Row"
def F_R : u_T := fun k => match k with
  | 0 => ("CutPlanner$Row", "items", "[I", true)
  | _ => ("CutPlanner$Row", "size", "I", false)
def ft_R : Nat → FieldType := fun k => match k with
  | 0 => .array .int
  | _ => .int
theorem n_R : ∀ a, a < 2 → ∀ b, b < 2 → a ≠ b → (F_R a).2.1 ≠ (F_R b).2.1 := by decide +kernel
theorem to_R : ∀ k, k < 2 → parseFieldDescriptor (F_R k).2.2.1 = some (ft_R k) := by decide +kernel
theorem wi_R : ∀ w ∈ u_ws R_R F_R 2, w ∈ gd_T := by
  intro w hw
  obtain ⟨i, hi, rfl⟩ := List.mem_map.mp hw
  have hi := List.mem_range.mp hi
  match i, hi with
  | 0, _ => exact gd_in1 106 (by decide +kernel) (by decide +kernel)
  | 1, _ => exact gd_in1 108 (by decide +kernel) (by decide +kernel)
  | k + 2, h => omega
def R_S : String := "CutPlanner$Search"
def F_S : u_T := fun k => match k with
  | 0 => ("CutPlanner$Search", "task", "LCutPlanner$Task;", true)
  | 1 => ("CutPlanner$Search", "order", "[I", true)
  | 2 => ("CutPlanner$Search", "spent", "[I", true)
  | 3 => ("CutPlanner$Search", "onward", "[I", true)
  | 4 => ("CutPlanner$Search", "begins", "[I", true)
  | _ => ("CutPlanner$Search", "settled", "I", false)
def ft_S : Nat → FieldType := fun k => match k with
  | 0 => .object "CutPlanner$Task"
  | 1 => .array .int
  | 2 => .array .int
  | 3 => .array .int
  | 4 => .array .int
  | _ => .int
theorem n_S : ∀ a, a < 6 → ∀ b, b < 6 → a ≠ b → (F_S a).2.1 ≠ (F_S b).2.1 := by decide +kernel
theorem to_S : ∀ k, k < 6 → parseFieldDescriptor (F_S k).2.2.1 = some (ft_S k) := by decide +kernel
theorem wi_S : ∀ w ∈ u_ws R_S F_S 6, w ∈ gd_T := by
  intro w hw
  obtain ⟨i, hi, rfl⟩ := List.mem_map.mp hw
  have hi := List.mem_range.mp hi
  match i, hi with
  | 0, _ => exact gd_in1 83 (by decide +kernel) (by decide +kernel)
  | 1, _ => exact gd_in1 85 (by decide +kernel) (by decide +kernel)
  | 2, _ => exact gd_in1 87 (by decide +kernel) (by decide +kernel)
  | 3, _ => exact gd_in1 89 (by decide +kernel) (by decide +kernel)
  | 4, _ => exact gd_in1 91 (by decide +kernel) (by decide +kernel)
  | 5, _ => exact gd_in1 93 (by decide +kernel) (by decide +kernel)
  | k + 6, h => omega
def R_V : String := "CutPlanner$Levels"
def F_V : u_T := fun k => match k with
  | 0 => ("CutPlanner$Levels", "task", "LCutPlanner$Task;", true)
  | _ => ("CutPlanner$Levels", "heights", "[I", true)
def ft_V : Nat → FieldType := fun k => match k with
  | 0 => .object "CutPlanner$Task"
  | _ => .array .int
theorem n_V : ∀ a, a < 2 → ∀ b, b < 2 → a ≠ b → (F_V a).2.1 ≠ (F_V b).2.1 := by decide +kernel
theorem to_V : ∀ k, k < 2 → parseFieldDescriptor (F_V k).2.2.1 = some (ft_V k) := by decide +kernel
theorem wi_V : ∀ w ∈ u_ws R_V F_V 2, w ∈ gd_T := by
  intro w hw
  obtain ⟨i, hi, rfl⟩ := List.mem_map.mp hw
  have hi := List.mem_range.mp hi
  match i, hi with
  | 0, _ => exact gd_in1 120 (by decide +kernel) (by decide +kernel)
  | 1, _ => exact gd_in1 122 (by decide +kernel) (by decide +kernel)
  | k + 2, h => omega
def R_U : String := "CutPlanner$Cuts"
def F_U : u_T := fun k => match k with
  | 0 => ("CutPlanner$Cuts", "task", "LCutPlanner$Task;", true)
  | 1 => ("CutPlanner$Cuts", "levels", "LCutPlanner$Levels;", true)
  | 2 => ("CutPlanner$Cuts", "left", "[I", true)
  | 3 => ("CutPlanner$Cuts", "bases", "[I", true)
  | 4 => ("CutPlanner$Cuts", "found", "[I", true)
  | 5 => ("CutPlanner$Cuts", "count", "I", false)
  | _ => ("CutPlanner$Cuts", "total", "I", false)
def ft_U : Nat → FieldType := fun k => match k with
  | 0 => .object "CutPlanner$Task"
  | 1 => .object "CutPlanner$Levels"
  | 2 => .array .int
  | 3 => .array .int
  | 4 => .array .int
  | 5 => .int
  | _ => .int
theorem n_U : ∀ a, a < 7 → ∀ b, b < 7 → a ≠ b → (F_U a).2.1 ≠ (F_U b).2.1 := by decide +kernel
theorem to_U : ∀ k, k < 7 → parseFieldDescriptor (F_U k).2.2.1 = some (ft_U k) := by decide +kernel
theorem wi_U : ∀ w ∈ u_ws R_U F_U 7, w ∈ gd_T := by
  intro w hw
  obtain ⟨i, hi, rfl⟩ := List.mem_map.mp hw
  have hi := List.mem_range.mp hi
  match i, hi with
  | 0, _ => exact gd_in1 141 (by decide +kernel) (by decide +kernel)
  | 1, _ => exact gd_in1 143 (by decide +kernel) (by decide +kernel)
  | 2, _ => exact gd_in1 145 (by decide +kernel) (by decide +kernel)
  | 3, _ => exact gd_in1 147 (by decide +kernel) (by decide +kernel)
  | 4, _ => exact gd_in1 149 (by decide +kernel) (by decide +kernel)
  | 5, _ => exact gd_in1 151 (by decide +kernel) (by decide +kernel)
  | 6, _ => exact gd_in1 153 (by decide +kernel) (by decide +kernel)
  | k + 7, h => omega
def R_M : String := "CutPlannerModel"
def F_M : u_T := fun k => match k with
  | 0 => ("CutPlannerModel", "code", "I", false)
  | 1 => ("CutPlannerModel", "facts", "I", false)
  | 2 => ("CutPlannerModel", "first", "I", false)
  | 3 => ("CutPlannerModel", "goal", "I", false)
  | 4 => ("CutPlannerModel", "actions", "I", false)
  | 5 => ("CutPlannerModel", "costs", "[I", true)
  | 6 => ("CutPlannerModel", "needs", "[I", true)
  | 7 => ("CutPlannerModel", "adds", "[I", true)
  | 8 => ("CutPlannerModel", "drops", "[I", true)
  | 9 => ("CutPlannerModel", "now", "I", false)
  | 10 => ("CutPlannerModel", "planned", "I", false)
  | 11 => ("CutPlannerModel", "plan", "[I", true)
  | 12 => ("CutPlannerModel", "drafted", "I", false)
  | 13 => ("CutPlannerModel", "draft", "[I", true)
  | 14 => ("CutPlannerModel", "dear", "[I", true)
  | 15 => ("CutPlannerModel", "come", "[Z", true)
  | 16 => ("CutPlannerModel", "rates", "[I", true)
  | 17 => ("CutPlannerModel", "levels", "[I", true)
  | 18 => ("CutPlannerModel", "found", "I", false)
  | 19 => ("CutPlannerModel", "sets", "[I", true)
  | _ => ("CutPlannerModel", "price", "I", false)
def ft_M : Nat → FieldType := fun k => match k with
  | 0 => .int
  | 1 => .int
  | 2 => .int
  | 3 => .int
  | 4 => .int
  | 5 => .array .int
  | 6 => .array .int
  | 7 => .array .int
  | 8 => .array .int
  | 9 => .int
  | 10 => .int
  | 11 => .array .int
  | 12 => .int
  | 13 => .array .int
  | 14 => .array .int
  | 15 => .array .boolean
  | 16 => .array .int
  | 17 => .array .int
  | 18 => .int
  | 19 => .array .int
  | _ => .int
theorem n_M : ∀ a, a < 21 → ∀ b, b < 21 → a ≠ b → (F_M a).2.1 ≠ (F_M b).2.1 := by decide +kernel
theorem to_M : ∀ k, k < 21 → parseFieldDescriptor (F_M k).2.2.1 = some (ft_M k) := by decide +kernel
theorem wi_M : ∀ w ∈ u_ws R_M F_M 21, w ∈ gd_T := by
  intro w hw
  obtain ⟨i, hi, rfl⟩ := List.mem_map.mp hw
  have hi := List.mem_range.mp hi
  match i, hi with
  | 0, _ => exact gd_in3 105 (by decide +kernel) (by decide +kernel)
  | 1, _ => exact gd_in3 107 (by decide +kernel) (by decide +kernel)
  | 2, _ => exact gd_in3 109 (by decide +kernel) (by decide +kernel)
  | 3, _ => exact gd_in3 111 (by decide +kernel) (by decide +kernel)
  | 4, _ => exact gd_in3 113 (by decide +kernel) (by decide +kernel)
  | 5, _ => exact gd_in3 115 (by decide +kernel) (by decide +kernel)
  | 6, _ => exact gd_in3 117 (by decide +kernel) (by decide +kernel)
  | 7, _ => exact gd_in3 119 (by decide +kernel) (by decide +kernel)
  | 8, _ => exact gd_in3 121 (by decide +kernel) (by decide +kernel)
  | 9, _ => exact gd_in3 123 (by decide +kernel) (by decide +kernel)
  | 10, _ => exact gd_in3 125 (by decide +kernel) (by decide +kernel)
  | 11, _ => exact gd_in3 127 (by decide +kernel) (by decide +kernel)
  | 12, _ => exact gd_in3 129 (by decide +kernel) (by decide +kernel)
  | 13, _ => exact gd_in3 131 (by decide +kernel) (by decide +kernel)
  | 14, _ => exact gd_in3 133 (by decide +kernel) (by decide +kernel)
  | 15, _ => exact gd_in3 135 (by decide +kernel) (by decide +kernel)
  | 16, _ => exact gd_in3 137 (by decide +kernel) (by decide +kernel)
  | 17, _ => exact gd_in3 139 (by decide +kernel) (by decide +kernel)
  | 18, _ => exact gd_in3 141 (by decide +kernel) (by decide +kernel)
  | 19, _ => exact gd_in3 143 (by decide +kernel) (by decide +kernel)
  | 20, _ => exact gd_in3 145 (by decide +kernel) (by decide +kernel)
  | k + 21, h => omega
abbrev classes : List vw_C := [(R_P, F_P, 7), (R_T, F_T, 6), (R_R, F_R, 2), (R_S, F_S, 6), (R_V, F_V, 2), (R_U, F_U, 7), (R_M, F_M, 21)]
abbrev b_P_init : ByteArray := prog_1_method_1_code
def y_P_init : MethodName := ⟨"CutPlanner", "<init>", "()V"⟩
theorem wc_P_init : Cond.code y_P_init b_P_init 1 (none) ∈ gd_T := gd_in1 21 rfl rfl
abbrev b_P_fact : ByteArray := prog_1_method_2_code
def y_P_fact : MethodName := ⟨"CutPlanner", "fact", "(ZZ)I"⟩
theorem wc_P_fact : Cond.code y_P_fact b_P_fact 4 (some .int) ∈ gd_T := gd_in2 114 rfl rfl
abbrev b_P_action : ByteArray := prog_1_method_3_code
def y_P_action : MethodName := ⟨"CutPlanner", "action", "(I)I"⟩
theorem wc_P_action : Cond.code y_P_action b_P_action 3 (some .int) ∈ gd_T := gd_in2 198 rfl rfl
abbrev b_P_link : ByteArray := prog_1_method_4_code
def y_P_link : MethodName := ⟨"CutPlanner", "link", "(III)V"⟩
theorem wc_P_link : Cond.code y_P_link b_P_link 4 (none) ∈ gd_T := gd_in2 227 rfl rfl
abbrev b_P_reset : ByteArray := prog_1_method_5_code
def y_P_reset : MethodName := ⟨"CutPlanner", "reset", "()V"⟩
theorem wc_P_reset : Cond.code y_P_reset b_P_reset 1 (none) ∈ gd_T := gd_in1 181 rfl rfl
abbrev b_P_holds : ByteArray := prog_1_method_6_code
def y_P_holds : MethodName := ⟨"CutPlanner", "holds", "(I)Z"⟩
theorem wc_P_holds : Cond.code y_P_holds b_P_holds 2 (some .boolean) ∈ gd_T := gd_in3 22 rfl rfl
abbrev b_P_applicable : ByteArray := prog_1_method_7_code
def y_P_applicable : MethodName := ⟨"CutPlanner", "applicable", "(I)Z"⟩
theorem wc_P_applicable : Cond.code y_P_applicable b_P_applicable 2 (some .boolean) ∈ gd_T := gd_in3 29 rfl rfl
abbrev b_P_apply : ByteArray := prog_1_method_8_code
def y_P_apply : MethodName := ⟨"CutPlanner", "apply", "(I)Z"⟩
theorem wc_P_apply : Cond.code y_P_apply b_P_apply 2 (some .boolean) ∈ gd_T := gd_in3 36 rfl rfl
abbrev b_P_plan : ByteArray := prog_1_method_9_code
def y_P_plan : MethodName := ⟨"CutPlanner", "plan", "()I"⟩
theorem wc_P_plan : Cond.code y_P_plan b_P_plan 2 (some .int) ∈ gd_T := gd_in1 185 rfl rfl
abbrev b_P_length : ByteArray := prog_1_method_10_code
def y_P_length : MethodName := ⟨"CutPlanner", "length", "()I"⟩
theorem wc_P_length : Cond.code y_P_length b_P_length 1 (some .int) ∈ gd_T := gd_in2 4 rfl rfl
abbrev b_P_step : ByteArray := prog_1_method_11_code
def y_P_step : MethodName := ⟨"CutPlanner", "step", "(I)I"⟩
theorem wc_P_step : Cond.code y_P_step b_P_step 2 (some .int) ∈ gd_T := gd_in2 8 rfl rfl
abbrev b_P_states : ByteArray := prog_1_method_12_code
def y_P_states : MethodName := ⟨"CutPlanner", "states", "()I"⟩
theorem wc_P_states : Cond.code y_P_states b_P_states 1 (some .int) ∈ gd_T := gd_in2 12 rfl rfl
abbrev b_P_together : ByteArray := prog_1_method_13_code
def y_P_together : MethodName := ⟨"CutPlanner", "together", "(II)Z"⟩
theorem wc_P_together : Cond.code y_P_together b_P_together 3 (some .boolean) ∈ gd_T := gd_in3 44 rfl rfl
abbrev b_P_level : ByteArray := prog_1_method_14_code
def y_P_level : MethodName := ⟨"CutPlanner", "level", "(IZ)I"⟩
theorem wc_P_level : Cond.code y_P_level b_P_level 3 (some .int) ∈ gd_T := gd_in3 56 rfl rfl
abbrev b_P_bound : ByteArray := prog_1_method_15_code
def y_P_bound : MethodName := ⟨"CutPlanner", "bound", "(Z)I"⟩
theorem wc_P_bound : Cond.code y_P_bound b_P_bound 2 (some .int) ∈ gd_T := gd_in2 16 rfl rfl
abbrev b_P_cuts : ByteArray := prog_1_method_16_code
def y_P_cuts : MethodName := ⟨"CutPlanner", "cuts", "()I"⟩
theorem wc_P_cuts : Cond.code y_P_cuts b_P_cuts 1 (some .int) ∈ gd_T := gd_in2 47 rfl rfl
abbrev b_P_cut : ByteArray := prog_1_method_17_code
def y_P_cut : MethodName := ⟨"CutPlanner", "cut", "(I)I"⟩
theorem wc_P_cut : Cond.code y_P_cut b_P_cut 2 (some .int) ∈ gd_T := gd_in2 91 rfl rfl
abbrev b_P_landmark : ByteArray := prog_1_method_18_code
def y_P_landmark : MethodName := ⟨"CutPlanner", "landmark", "(I)Z"⟩
theorem wc_P_landmark : Cond.code y_P_landmark b_P_landmark 2 (some .boolean) ∈ gd_T := gd_in3 63 rfl rfl
abbrev b_P_draft : ByteArray := prog_1_method_19_code
def y_P_draft : MethodName := ⟨"CutPlanner", "draft", "(I)I"⟩
theorem wc_P_draft : Cond.code y_P_draft b_P_draft 2 (some .int) ∈ gd_T := gd_in3 75 rfl rfl
abbrev b_P_wipe : ByteArray := prog_1_method_20_code
def y_P_wipe : MethodName := ⟨"CutPlanner", "wipe", "()V"⟩
theorem wc_P_wipe : Cond.code y_P_wipe b_P_wipe 1 (none) ∈ gd_T := gd_in2 95 rfl rfl
abbrev b_P_check : ByteArray := prog_1_method_21_code
def y_P_check : MethodName := ⟨"CutPlanner", "check", "()I"⟩
theorem wc_P_check : Cond.code y_P_check b_P_check 4 (some .int) ∈ gd_T := gd_in2 99 rfl rfl
abbrev b_P_cost : ByteArray := prog_1_method_22_code
def y_P_cost : MethodName := ⟨"CutPlanner", "cost", "()I"⟩
theorem wc_P_cost : Cond.code y_P_cost b_P_cost 3 (some .int) ∈ gd_T := gd_in2 106 rfl rfl
abbrev b_P_startAnew : ByteArray := prog_1_method_23_code
def y_P_startAnew : MethodName := ⟨"CutPlanner", "startAnew", "()V"⟩
theorem wc_P_startAnew : Cond.code y_P_startAnew b_P_startAnew 1 (none) ∈ gd_T := gd_in2 190 rfl rfl
abbrev b_P_refuseUnknownFact : ByteArray := prog_1_method_24_code
def y_P_refuseUnknownFact : MethodName := ⟨"CutPlanner", "refuseUnknownFact", "(I)V"⟩
theorem wc_P_refuseUnknownFact : Cond.code y_P_refuseUnknownFact b_P_refuseUnknownFact 2 (none) ∈ gd_T := gd_in3 11 rfl rfl
abbrev b_P_refuseUnknownAction : ByteArray := prog_1_method_25_code
def y_P_refuseUnknownAction : MethodName := ⟨"CutPlanner", "refuseUnknownAction", "(I)V"⟩
theorem wc_P_refuseUnknownAction : Cond.code y_P_refuseUnknownAction b_P_refuseUnknownAction 2 (none) ∈ gd_T := gd_in2 231 rfl rfl
abbrev b_P_orNone : ByteArray := prog_1_method_26_code
def y_P_orNone : MethodName := ⟨"CutPlanner", "orNone", "(I)I"⟩
theorem wc_P_orNone : Cond.code y_P_orNone b_P_orNone 1 (some .int) ∈ gd_T := gd_in2 42 rfl rfl
abbrev b_P_has : ByteArray := prog_1_method_27_code
def y_P_has : MethodName := ⟨"CutPlanner", "has", "(II)Z"⟩
theorem wc_P_has : Cond.code y_P_has b_P_has 2 (some .boolean) ∈ gd_T := gd_in2 23 rfl rfl
abbrev b_P_hasAll : ByteArray := prog_1_method_28_code
def y_P_hasAll : MethodName := ⟨"CutPlanner", "hasAll", "(II)Z"⟩
theorem wc_P_hasAll : Cond.code y_P_hasAll b_P_hasAll 2 (some .boolean) ∈ gd_T := gd_in1 212 rfl rfl
abbrev b_M_init : ByteArray := prog_8_method_1_code
def y_M_init : MethodName := ⟨"CutPlannerModel", "<init>", "()V"⟩
theorem wc_M_init : Cond.code y_M_init b_M_init 1 (none) ∈ gd_T := gd_in3 82 rfl rfl
abbrev b_M_thrown : ByteArray := prog_8_method_2_code
def y_M_thrown : MethodName := ⟨"CutPlannerModel", "thrown", "()I"⟩
theorem wc_M_thrown : Cond.code y_M_thrown b_M_thrown 1 (some .int) ∈ gd_T := gd_in3 152 rfl rfl
abbrev b_M_noFact : ByteArray := prog_8_method_3_code
def y_M_noFact : MethodName := ⟨"CutPlannerModel", "noFact", "(I)Z"⟩
theorem wc_M_noFact : Cond.code y_M_noFact b_M_noFact 2 (some .boolean) ∈ gd_T := gd_in3 176 rfl rfl
abbrev b_M_noAction : ByteArray := prog_8_method_4_code
def y_M_noAction : MethodName := ⟨"CutPlannerModel", "noAction", "(I)Z"⟩
theorem wc_M_noAction : Cond.code y_M_noAction b_M_noAction 2 (some .boolean) ∈ gd_T := gd_in3 172 rfl rfl
abbrev b_M_changed : ByteArray := prog_8_method_5_code
def y_M_changed : MethodName := ⟨"CutPlannerModel", "changed", "()V"⟩
theorem wc_M_changed : Cond.code y_M_changed b_M_changed 1 (none) ∈ gd_T := gd_in3 160 rfl rfl
abbrev b_M_fact : ByteArray := prog_8_method_6_code
def y_M_fact : MethodName := ⟨"CutPlannerModel", "fact", "(ZZ)I"⟩
theorem wc_M_fact : Cond.code y_M_fact b_M_fact 4 (some .int) ∈ gd_T := gd_in3 156 rfl rfl
abbrev b_M_action : ByteArray := prog_8_method_7_code
def y_M_action : MethodName := ⟨"CutPlannerModel", "action", "(I)I"⟩
theorem wc_M_action : Cond.code y_M_action b_M_action 2 (some .int) ∈ gd_T := gd_in3 164 rfl rfl
abbrev b_M_link : ByteArray := prog_8_method_8_code
def y_M_link : MethodName := ⟨"CutPlannerModel", "link", "(III)V"⟩
theorem wc_M_link : Cond.code y_M_link b_M_link 6 (none) ∈ gd_T := gd_in3 168 rfl rfl
abbrev b_M_can : ByteArray := prog_8_method_9_code
def y_M_can : MethodName := ⟨"CutPlannerModel", "can", "(II)Z"⟩
theorem wc_M_can : Cond.code y_M_can b_M_can 3 (some .boolean) ∈ gd_T := gd_in3 192 rfl rfl
abbrev b_M_after : ByteArray := prog_8_method_10_code
def y_M_after : MethodName := ⟨"CutPlannerModel", "after", "(II)I"⟩
theorem wc_M_after : Cond.code y_M_after b_M_after 3 (some .int) ∈ gd_T := gd_in3 200 rfl rfl
abbrev b_M_isMet : ByteArray := prog_8_method_11_code
def y_M_isMet : MethodName := ⟨"CutPlannerModel", "isMet", "(I)Z"⟩
theorem wc_M_isMet : Cond.code y_M_isMet b_M_isMet 2 (some .boolean) ∈ gd_T := gd_in3 204 rfl rfl
abbrev b_M_reset : ByteArray := prog_8_method_12_code
def y_M_reset : MethodName := ⟨"CutPlannerModel", "reset", "()V"⟩
theorem wc_M_reset : Cond.code y_M_reset b_M_reset 1 (none) ∈ gd_T := gd_in3 180 rfl rfl
abbrev b_M_holds : ByteArray := prog_8_method_13_code
def y_M_holds : MethodName := ⟨"CutPlannerModel", "holds", "(I)Z"⟩
theorem wc_M_holds : Cond.code y_M_holds b_M_holds 2 (some .boolean) ∈ gd_T := gd_in3 184 rfl rfl
abbrev b_M_applicable : ByteArray := prog_8_method_14_code
def y_M_applicable : MethodName := ⟨"CutPlannerModel", "applicable", "(I)Z"⟩
theorem wc_M_applicable : Cond.code y_M_applicable b_M_applicable 2 (some .boolean) ∈ gd_T := gd_in3 188 rfl rfl
abbrev b_M_apply : ByteArray := prog_8_method_15_code
def y_M_apply : MethodName := ⟨"CutPlannerModel", "apply", "(I)Z"⟩
theorem wc_M_apply : Cond.code y_M_apply b_M_apply 2 (some .boolean) ∈ gd_T := gd_in3 196 rfl rfl
abbrev b_M_findCosts : ByteArray := prog_8_method_16_code
def y_M_findCosts : MethodName := ⟨"CutPlannerModel", "findCosts", "()V"⟩
theorem wc_M_findCosts : Cond.code y_M_findCosts b_M_findCosts 5 (none) ∈ gd_T := gd_in3 212 rfl rfl
abbrev b_M_bestAction : ByteArray := prog_8_method_17_code
def y_M_bestAction : MethodName := ⟨"CutPlannerModel", "bestAction", "(I)I"⟩
theorem wc_M_bestAction : Cond.code y_M_bestAction b_M_bestAction 3 (some .int) ∈ gd_T := gd_in3 217 rfl rfl
abbrev b_M_plan : ByteArray := prog_8_method_18_code
def y_M_plan : MethodName := ⟨"CutPlannerModel", "plan", "()I"⟩
theorem wc_M_plan : Cond.code y_M_plan b_M_plan 3 (some .int) ∈ gd_T := gd_in3 208 rfl rfl
abbrev b_M_length : ByteArray := prog_8_method_19_code
def y_M_length : MethodName := ⟨"CutPlannerModel", "length", "()I"⟩
theorem wc_M_length : Cond.code y_M_length b_M_length 1 (some .int) ∈ gd_T := gd_in3 221 rfl rfl
abbrev b_M_step : ByteArray := prog_8_method_20_code
def y_M_step : MethodName := ⟨"CutPlannerModel", "step", "(I)I"⟩
theorem wc_M_step : Cond.code y_M_step b_M_step 2 (some .int) ∈ gd_T := gd_in3 225 rfl rfl
abbrev b_M_comeTo : ByteArray := prog_8_method_21_code
def y_M_comeTo : MethodName := ⟨"CutPlannerModel", "comeTo", "()V"⟩
theorem wc_M_comeTo : Cond.code y_M_comeTo b_M_comeTo 5 (none) ∈ gd_T := gd_in3 233 rfl rfl
abbrev b_M_states : ByteArray := prog_8_method_22_code
def y_M_states : MethodName := ⟨"CutPlannerModel", "states", "()I"⟩
theorem wc_M_states : Cond.code y_M_states b_M_states 3 (some .int) ∈ gd_T := gd_in3 229 rfl rfl
abbrev b_M_together : ByteArray := prog_8_method_23_code
def y_M_together : MethodName := ⟨"CutPlannerModel", "together", "(II)Z"⟩
theorem wc_M_together : Cond.code y_M_together b_M_together 5 (some .boolean) ∈ gd_T := gd_in3 237 rfl rfl
abbrev b_M_over : ByteArray := prog_8_method_24_code
def y_M_over : MethodName := ⟨"CutPlannerModel", "over", "(IZ)I"⟩
theorem wc_M_over : Cond.code y_M_over b_M_over 5 (some .int) ∈ gd_T := gd_in4 13 rfl rfl
abbrev b_M_findLevels : ByteArray := prog_8_method_25_code
def y_M_findLevels : MethodName := ⟨"CutPlannerModel", "findLevels", "(ZI)V"⟩
theorem wc_M_findLevels : Cond.code y_M_findLevels b_M_findLevels 7 (none) ∈ gd_T := gd_in4 9 rfl rfl
abbrev b_M_ownRates : ByteArray := prog_8_method_26_code
def y_M_ownRates : MethodName := ⟨"CutPlannerModel", "ownRates", "()V"⟩
theorem wc_M_ownRates : Cond.code y_M_ownRates b_M_ownRates 2 (none) ∈ gd_T := gd_in4 5 rfl rfl
abbrev b_M_told : ByteArray := prog_8_method_27_code
def y_M_told : MethodName := ⟨"CutPlannerModel", "told", "(I)I"⟩
theorem wc_M_told : Cond.code y_M_told b_M_told 1 (some .int) ∈ gd_T := gd_in4 16 rfl rfl
abbrev b_M_level : ByteArray := prog_8_method_28_code
def y_M_level : MethodName := ⟨"CutPlannerModel", "level", "(IZ)I"⟩
theorem wc_M_level : Cond.code y_M_level b_M_level 3 (some .int) ∈ gd_T := gd_in4 1 rfl rfl
abbrev b_M_bound : ByteArray := prog_8_method_29_code
def y_M_bound : MethodName := ⟨"CutPlannerModel", "bound", "(Z)I"⟩
theorem wc_M_bound : Cond.code y_M_bound b_M_bound 2 (some .int) ∈ gd_T := gd_in4 20 rfl rfl
abbrev b_M_base : ByteArray := prog_8_method_30_code
def y_M_base : MethodName := ⟨"CutPlannerModel", "base", "(I)I"⟩
theorem wc_M_base : Cond.code y_M_base b_M_base 4 (some .int) ∈ gd_T := gd_in4 36 rfl rfl
abbrev b_M_zone : ByteArray := prog_8_method_31_code
def y_M_zone : MethodName := ⟨"CutPlannerModel", "zone", "()I"⟩
theorem wc_M_zone : Cond.code y_M_zone b_M_zone 5 (some .int) ∈ gd_T := gd_in4 32 rfl rfl
abbrev b_M_rest : ByteArray := prog_8_method_32_code
def y_M_rest : MethodName := ⟨"CutPlannerModel", "rest", "(I)I"⟩
theorem wc_M_rest : Cond.code y_M_rest b_M_rest 6 (some .int) ∈ gd_T := gd_in4 40 rfl rfl
abbrev b_M_actionsAcross : ByteArray := prog_8_method_33_code
def y_M_actionsAcross : MethodName := ⟨"CutPlannerModel", "actionsAcross", "(II)I"⟩
theorem wc_M_actionsAcross : Cond.code y_M_actionsAcross b_M_actionsAcross 6 (some .int) ∈ gd_T := gd_in4 44 rfl rfl
abbrev b_M_least : ByteArray := prog_8_method_34_code
def y_M_least : MethodName := ⟨"CutPlannerModel", "least", "(I)I"⟩
theorem wc_M_least : Cond.code y_M_least b_M_least 4 (some .int) ∈ gd_T := gd_in4 48 rfl rfl
abbrev b_M_cutAll : ByteArray := prog_8_method_35_code
def y_M_cutAll : MethodName := ⟨"CutPlannerModel", "cutAll", "()V"⟩
theorem wc_M_cutAll : Cond.code y_M_cutAll b_M_cutAll 6 (none) ∈ gd_T := gd_in4 28 rfl rfl
abbrev b_M_cuts : ByteArray := prog_8_method_36_code
def y_M_cuts : MethodName := ⟨"CutPlannerModel", "cuts", "()I"⟩
theorem wc_M_cuts : Cond.code y_M_cuts b_M_cuts 1 (some .int) ∈ gd_T := gd_in4 24 rfl rfl
abbrev b_M_cut : ByteArray := prog_8_method_37_code
def y_M_cut : MethodName := ⟨"CutPlannerModel", "cut", "(I)I"⟩
theorem wc_M_cut : Cond.code y_M_cut b_M_cut 2 (some .int) ∈ gd_T := gd_in4 52 rfl rfl
abbrev b_M_landmark : ByteArray := prog_8_method_38_code
def y_M_landmark : MethodName := ⟨"CutPlannerModel", "landmark", "(I)Z"⟩
theorem wc_M_landmark : Cond.code y_M_landmark b_M_landmark 2 (some .boolean) ∈ gd_T := gd_in4 56 rfl rfl
abbrev b_M_draft : ByteArray := prog_8_method_39_code
def y_M_draft : MethodName := ⟨"CutPlannerModel", "draft", "(I)I"⟩
theorem wc_M_draft : Cond.code y_M_draft b_M_draft 2 (some .int) ∈ gd_T := gd_in4 60 rfl rfl
abbrev b_M_wipe : ByteArray := prog_8_method_40_code
def y_M_wipe : MethodName := ⟨"CutPlannerModel", "wipe", "()V"⟩
theorem wc_M_wipe : Cond.code y_M_wipe b_M_wipe 1 (none) ∈ gd_T := gd_in4 64 rfl rfl
abbrev b_M_check : ByteArray := prog_8_method_41_code
def y_M_check : MethodName := ⟨"CutPlannerModel", "check", "()I"⟩
theorem wc_M_check : Cond.code y_M_check b_M_check 3 (some .int) ∈ gd_T := gd_in4 68 rfl rfl
abbrev b_M_cost : ByteArray := prog_8_method_42_code
def y_M_cost : MethodName := ⟨"CutPlannerModel", "cost", "()I"⟩
theorem wc_M_cost : Cond.code y_M_cost b_M_cost 3 (some .int) ∈ gd_T := gd_in4 72 rfl rfl
abbrev b_U_init : ByteArray := prog_2_method_1_code
def y_U_init : MethodName := ⟨"CutPlanner$Cuts", "<init>", "(LCutPlanner$Task;LCutPlanner$Levels;)V"⟩
theorem wc_U_init : Cond.code y_U_init b_U_init 3 (none) ∈ gd_T := gd_in1 129 rfl rfl
abbrev b_U_collect : ByteArray := prog_2_method_2_code
def y_U_collect : MethodName := ⟨"CutPlanner$Cuts", "collect", "(I)V"⟩
theorem wc_U_collect : Cond.code y_U_collect b_U_collect 4 (none) ∈ gd_T := gd_in2 51 rfl rfl
abbrev b_U_goalHeight : ByteArray := prog_2_method_3_code
def y_U_goalHeight : MethodName := ⟨"CutPlanner$Cuts", "goalHeight", "(I)I"⟩
theorem wc_U_goalHeight : Cond.code y_U_goalHeight b_U_goalHeight 2 (some .int) ∈ gd_T := gd_in2 58 rfl rfl
abbrev b_U_nextCut : ByteArray := prog_2_method_4_code
def y_U_nextCut : MethodName := ⟨"CutPlanner$Cuts", "nextCut", "(I)I"⟩
theorem wc_U_nextCut : Cond.code y_U_nextCut b_U_nextCut 6 (some .int) ∈ gd_T := gd_in2 65 rfl rfl
abbrev b_U_zoneBefore : ByteArray := prog_2_method_5_code
def y_U_zoneBefore : MethodName := ⟨"CutPlanner$Cuts", "zoneBefore", "(I)I"⟩
theorem wc_U_zoneBefore : Cond.code y_U_zoneBefore b_U_zoneBefore 7 (some .int) ∈ gd_T := gd_in2 73 rfl rfl
abbrev b_U_restBehind : ByteArray := prog_2_method_6_code
def y_U_restBehind : MethodName := ⟨"CutPlanner$Cuts", "restBehind", "(II)I"⟩
theorem wc_U_restBehind : Cond.code y_U_restBehind b_U_restBehind 7 (some .int) ∈ gd_T := gd_in2 77 rfl rfl
abbrev b_U_isBasedIn : ByteArray := prog_2_method_7_code
def y_U_isBasedIn : MethodName := ⟨"CutPlanner$Cuts", "isBasedIn", "(II)Z"⟩
theorem wc_U_isBasedIn : Cond.code y_U_isBasedIn b_U_isBasedIn 3 (some .boolean) ∈ gd_T := gd_in2 81 rfl rfl
abbrev b_U_pay : ByteArray := prog_2_method_8_code
def y_U_pay : MethodName := ⟨"CutPlanner$Cuts", "pay", "(I)I"⟩
theorem wc_U_pay : Cond.code y_U_pay b_U_pay 4 (some .int) ∈ gd_T := gd_in2 86 rfl rfl
abbrev b_V_init : ByteArray := prog_3_method_1_code
def y_V_init : MethodName := ⟨"CutPlanner$Levels", "<init>", "(LCutPlanner$Task;)V"⟩
theorem wc_V_init : Cond.code y_V_init b_V_init 2 (none) ∈ gd_T := gd_in1 115 rfl rfl
abbrev b_V_measure : ByteArray := prog_3_method_2_code
def y_V_measure : MethodName := ⟨"CutPlanner$Levels", "measure", "(I[IZI)V"⟩
theorem wc_V_measure : Cond.code y_V_measure b_V_measure 9 (none) ∈ gd_T := gd_in2 20 rfl rfl
abbrev b_V_joined : ByteArray := prog_3_method_3_code
def y_V_joined : MethodName := ⟨"CutPlanner$Levels", "joined", "(IZ)I"⟩
theorem wc_V_joined : Cond.code y_V_joined b_V_joined 5 (some .int) ∈ gd_T := gd_in2 28 rfl rfl
abbrev b_V_baseOf : ByteArray := prog_3_method_4_code
def y_V_baseOf : MethodName := ⟨"CutPlanner$Levels", "baseOf", "(I)I"⟩
theorem wc_V_baseOf : Cond.code y_V_baseOf b_V_baseOf 5 (some .int) ∈ gd_T := gd_in2 69 rfl rfl
abbrev b_V_lower : ByteArray := prog_3_method_5_code
def y_V_lower : MethodName := ⟨"CutPlanner$Levels", "lower", "(II)Z"⟩
theorem wc_V_lower : Cond.code y_V_lower b_V_lower 5 (some .boolean) ∈ gd_T := gd_in2 38 rfl rfl
abbrev b_R_init : ByteArray := prog_4_method_1_code
def y_R_init : MethodName := ⟨"CutPlanner$Row", "<init>", "(I)V"⟩
theorem wc_R_init : Cond.code y_R_init b_R_init 2 (none) ∈ gd_T := gd_in1 100 rfl rfl
abbrev b_R_empty : ByteArray := prog_4_method_2_code
def y_R_empty : MethodName := ⟨"CutPlanner$Row", "empty", "()V"⟩
theorem wc_R_empty : Cond.code y_R_empty b_R_empty 1 (none) ∈ gd_T := gd_in1 220 rfl rfl
abbrev b_R_append : ByteArray := prog_4_method_3_code
def y_R_append : MethodName := ⟨"CutPlanner$Row", "append", "(I)V"⟩
theorem wc_R_append : Cond.code y_R_append b_R_append 2 (none) ∈ gd_T := gd_in2 0 rfl rfl
abbrev b_S_init : ByteArray := prog_5_method_1_code
def y_S_init : MethodName := ⟨"CutPlanner$Search", "<init>", "(LCutPlanner$Task;)V"⟩
theorem wc_S_init : Cond.code y_S_init b_S_init 2 (none) ∈ gd_T := gd_in1 71 rfl rfl
abbrev b_S_explore : ByteArray := prog_5_method_2_code
def y_S_explore : MethodName := ⟨"CutPlanner$Search", "explore", "(I)V"⟩
theorem wc_S_explore : Cond.code y_S_explore b_S_explore 5 (none) ∈ gd_T := gd_in1 189 rfl rfl
abbrev b_S_cameTo : ByteArray := prog_5_method_3_code
def y_S_cameTo : MethodName := ⟨"CutPlanner$Search", "cameTo", "(I)Z"⟩
theorem wc_S_cameTo : Cond.code y_S_cameTo b_S_cameTo 3 (some .boolean) ∈ gd_T := gd_in3 48 rfl rfl
abbrev b_S_leastToMet : ByteArray := prog_5_method_4_code
def y_S_leastToMet : MethodName := ⟨"CutPlanner$Search", "leastToMet", "()I"⟩
theorem wc_S_leastToMet : Cond.code y_S_leastToMet b_S_leastToMet 2 (some .int) ∈ gd_T := gd_in1 224 rfl rfl
abbrev b_S_writeBest : ByteArray := prog_5_method_5_code
def y_S_writeBest : MethodName := ⟨"CutPlanner$Search", "writeBest", "(IILCutPlanner$Row;)V"⟩
theorem wc_S_writeBest : Cond.code y_S_writeBest b_S_writeBest 7 (none) ∈ gd_T := gd_in1 232 rfl rfl
abbrev b_S_leastOnward : ByteArray := prog_5_method_6_code
def y_S_leastOnward : MethodName := ⟨"CutPlanner$Search", "leastOnward", "(I)I"⟩
theorem wc_S_leastOnward : Cond.code y_S_leastOnward b_S_leastOnward 4 (some .int) ∈ gd_T := gd_in1 236 rfl rfl
abbrev b_S_forget : ByteArray := prog_5_method_7_code
def y_S_forget : MethodName := ⟨"CutPlanner$Search", "forget", "()V"⟩
theorem wc_S_forget : Cond.code y_S_forget b_S_forget 2 (none) ∈ gd_T := gd_in1 193 rfl rfl
abbrev b_S_lastSpent : ByteArray := prog_5_method_8_code
def y_S_lastSpent : MethodName := ⟨"CutPlanner$Search", "lastSpent", "()I"⟩
theorem wc_S_lastSpent : Cond.code y_S_lastSpent b_S_lastSpent 1 (some .int) ∈ gd_T := gd_in1 201 rfl rfl
abbrev b_S_spread : ByteArray := prog_5_method_9_code
def y_S_spread : MethodName := ⟨"CutPlanner$Search", "spread", "(III)V"⟩
theorem wc_S_spread : Cond.code y_S_spread b_S_spread 6 (none) ∈ gd_T := gd_in1 205 rfl rfl
abbrev b_S_settle : ByteArray := prog_5_method_10_code
def y_S_settle : MethodName := ⟨"CutPlanner$Search", "settle", "(II)V"⟩
theorem wc_S_settle : Cond.code y_S_settle b_S_settle 3 (none) ∈ gd_T := gd_in1 197 rfl rfl
abbrev b_T_init : ByteArray := prog_6_method_1_code
def y_T_init : MethodName := ⟨"CutPlanner$Task", "<init>", "()V"⟩
theorem wc_T_init : Cond.code y_T_init b_T_init 1 (none) ∈ gd_T := gd_in1 29 rfl rfl
abbrev b_T_newFact : ByteArray := prog_6_method_2_code
def y_T_newFact : MethodName := ⟨"CutPlanner$Task", "newFact", "(ZZ)I"⟩
theorem wc_T_newFact : Cond.code y_T_newFact b_T_newFact 4 (some .int) ∈ gd_T := gd_in2 186 rfl rfl
abbrev b_T_newAction : ByteArray := prog_6_method_3_code
def y_T_newAction : MethodName := ⟨"CutPlanner$Task", "newAction", "(I)I"⟩
theorem wc_T_newAction : Cond.code y_T_newAction b_T_newAction 3 (some .int) ∈ gd_T := gd_in2 219 rfl rfl
abbrev b_T_allows : ByteArray := prog_6_method_4_code
def y_T_allows : MethodName := ⟨"CutPlanner$Task", "allows", "(II)Z"⟩
theorem wc_T_allows : Cond.code y_T_allows b_T_allows 3 (some .boolean) ∈ gd_T := gd_in1 209 rfl rfl
abbrev b_T_after : ByteArray := prog_6_method_5_code
def y_T_after : MethodName := ⟨"CutPlanner$Task", "after", "(II)I"⟩
theorem wc_T_after : Cond.code y_T_after b_T_after 3 (some .int) ∈ gd_T := gd_in1 216 rfl rfl
abbrev b_T_isMet : ByteArray := prog_6_method_6_code
def y_T_isMet : MethodName := ⟨"CutPlanner$Task", "isMet", "(I)Z"⟩
theorem wc_T_isMet : Cond.code y_T_isMet b_T_isMet 2 (some .boolean) ∈ gd_T := gd_in1 228 rfl rfl
abbrev b_T_addersOf : ByteArray := prog_6_method_7_code
def y_T_addersOf : MethodName := ⟨"CutPlanner$Task", "addersOf", "(I)I"⟩
theorem wc_T_addersOf : Cond.code y_T_addersOf b_T_addersOf 4 (some .int) ∈ gd_T := gd_in3 67 rfl rfl
abbrev b_L_fact : ByteArray := method_3_code
def y_L_fact : MethodName := ⟨"CutPlannerLaw", "fact", "(LCutPlanner;ZZ[J)I"⟩
abbrev b_L_action : ByteArray := method_4_code
def y_L_action : MethodName := ⟨"CutPlannerLaw", "action", "(LCutPlanner;I[J)I"⟩
abbrev b_L_link : ByteArray := method_5_code
def y_L_link : MethodName := ⟨"CutPlannerLaw", "link", "(LCutPlanner;III)I"⟩
abbrev b_L_holds : ByteArray := method_6_code
def y_L_holds : MethodName := ⟨"CutPlannerLaw", "holds", "(LCutPlanner;I[J)I"⟩
abbrev b_L_applicable : ByteArray := method_7_code
def y_L_applicable : MethodName := ⟨"CutPlannerLaw", "applicable", "(LCutPlanner;I[J)I"⟩
abbrev b_L_apply : ByteArray := method_8_code
def y_L_apply : MethodName := ⟨"CutPlannerLaw", "apply", "(LCutPlanner;I[J)I"⟩
abbrev b_L_together : ByteArray := method_9_code
def y_L_together : MethodName := ⟨"CutPlannerLaw", "together", "(LCutPlanner;II[J)I"⟩
abbrev b_L_level : ByteArray := method_10_code
def y_L_level : MethodName := ⟨"CutPlannerLaw", "level", "(LCutPlanner;IZ[J)I"⟩
abbrev b_L_landmark : ByteArray := method_11_code
def y_L_landmark : MethodName := ⟨"CutPlannerLaw", "landmark", "(LCutPlanner;I[J)I"⟩
abbrev b_L_draft : ByteArray := method_12_code
def y_L_draft : MethodName := ⟨"CutPlannerLaw", "draft", "(LCutPlanner;I[J)I"⟩
end
section
theorem kc_P_11 : zd_C gd_T "CutPlanner" 11 y_T_init b_T_init 1 (none) 0 := ⟨wc_T_init, gd_in1 2 (by decide +kernel) (by decide +kernel), ⟨by decide, by decide⟩, by decide +kernel, by decide, Or.inr ⟨"CutPlanner", gd_in1 27 (by decide +kernel) (by decide +kernel)⟩⟩
theorem kf_P_12 : zd_F classes gd_T "CutPlanner" 12 0 0 := ⟨R_P, F_P, 7, rfl, wi_P, by decide, Or.inl (gd_in1 156 (by decide +kernel) (by decide +kernel))⟩
theorem kc_P_18 : zd_C gd_T "CutPlanner" 18 y_S_init b_S_init 2 (none) 1 := ⟨wc_S_init, gd_in1 3 (by decide +kernel) (by decide +kernel), ⟨by decide, by decide⟩, by decide +kernel, by decide, Or.inl (gd_in1 69 (by decide +kernel) (by decide +kernel))⟩
theorem kf_P_21 : zd_F classes gd_T "CutPlanner" 21 0 1 := ⟨R_P, F_P, 7, rfl, wi_P, by decide, Or.inl (gd_in1 157 (by decide +kernel) (by decide +kernel))⟩
theorem kc_P_27 : zd_C gd_T "CutPlanner" 27 y_R_init b_R_init 2 (none) 1 := ⟨wc_R_init, gd_in1 5 (by decide +kernel) (by decide +kernel), ⟨by decide, by decide⟩, by decide +kernel, by decide, Or.inl (gd_in1 98 (by decide +kernel) (by decide +kernel))⟩
theorem kf_P_30 : zd_F classes gd_T "CutPlanner" 30 0 2 := ⟨R_P, F_P, 7, rfl, wi_P, by decide, Or.inl (gd_in1 158 (by decide +kernel) (by decide +kernel))⟩
theorem kf_P_34 : zd_F classes gd_T "CutPlanner" 34 0 3 := ⟨R_P, F_P, 7, rfl, wi_P, by decide, Or.inl (gd_in1 159 (by decide +kernel) (by decide +kernel))⟩
theorem kc_P_39 : zd_C gd_T "CutPlanner" 39 y_V_init b_V_init 2 (none) 1 := ⟨wc_V_init, gd_in1 6 (by decide +kernel) (by decide +kernel), ⟨by decide, by decide⟩, by decide +kernel, by decide, Or.inl (gd_in1 113 (by decide +kernel) (by decide +kernel))⟩
theorem kf_P_40 : zd_F classes gd_T "CutPlanner" 40 0 4 := ⟨R_P, F_P, 7, rfl, wi_P, by decide, Or.inl (gd_in1 160 (by decide +kernel) (by decide +kernel))⟩
theorem kc_P_46 : zd_C gd_T "CutPlanner" 46 y_U_init b_U_init 3 (none) 2 := ⟨wc_U_init, gd_in1 7 (by decide +kernel) (by decide +kernel), ⟨by decide, by decide⟩, by decide +kernel, by decide, Or.inl (gd_in1 127 (by decide +kernel) (by decide +kernel))⟩
theorem kf_P_49 : zd_F classes gd_T "CutPlanner" 49 0 5 := ⟨R_P, F_P, 7, rfl, wi_P, by decide, Or.inl (gd_in1 161 (by decide +kernel) (by decide +kernel))⟩
theorem kf_P_53 : zd_F classes gd_T "CutPlanner" 53 0 6 := ⟨R_P, F_P, 7, rfl, wi_P, by decide, Or.inl (gd_in1 162 (by decide +kernel) (by decide +kernel))⟩
theorem kp_P_53 : zd_FP classes gd_T "CutPlanner" 53 0 6 := ⟨R_P, F_P, 7, ft_P, rfl, wi_P, by decide, Or.inl (gd_in1 162 (by decide +kernel) (by decide +kernel)), to_P, n_P, rfl, by decide +kernel⟩
theorem kf_P_57 : zd_F classes gd_T "CutPlanner" 57 1 2 := ⟨R_T, F_T, 6, rfl, wi_T, by decide, Or.inr ⟨"CutPlanner", gd_in1 42 (by decide +kernel) (by decide +kernel)⟩⟩
theorem kp_P_57 : zd_FP classes gd_T "CutPlanner" 57 1 2 := ⟨R_T, F_T, 6, ft_T, rfl, wi_T, by decide, Or.inr ⟨"CutPlanner", gd_in1 42 (by decide +kernel) (by decide +kernel)⟩, to_T, n_T, rfl, by decide +kernel⟩
theorem kc_P_67 : zd_C gd_T "CutPlanner" 67 y_T_newFact b_T_newFact 4 (some .int) 2 := ⟨wc_T_newFact, gd_in1 2 (by decide +kernel) (by decide +kernel), ⟨by decide, by decide⟩, by decide +kernel, by decide, Or.inl (gd_in2 183 (by decide +kernel) (by decide +kernel))⟩
theorem ki_T_newFact : Cond.instanceMethod y_T_newFact ∈ gd_T := gd_in2 184 (by decide +kernel) (by decide +kernel)
theorem ke_T_newFact : Cond.selects y_T_newFact.cls y_T_newFact y_T_newFact ∈ gd_T := gd_in2 185 (by decide +kernel) (by decide +kernel)
theorem kc_P_71 : zd_C gd_T "CutPlanner" 71 y_P_startAnew b_P_startAnew 1 (none) 0 := ⟨wc_P_startAnew, gd_in1 1 (by decide +kernel) (by decide +kernel), ⟨by decide, by decide⟩, by decide +kernel, by decide, Or.inl (gd_in2 187 (by decide +kernel) (by decide +kernel))⟩
theorem ki_P_startAnew : Cond.instanceMethod y_P_startAnew ∈ gd_T := gd_in2 189 (by decide +kernel) (by decide +kernel)
theorem ke_P_startAnew : Cond.selects y_P_startAnew.cls y_P_startAnew y_P_startAnew ∈ gd_T := gd_sel (n := 7) 13 (by decide +kernel)
theorem kf_P_79 : zd_F classes gd_T "CutPlanner" 79 1 3 := ⟨R_T, F_T, 6, rfl, wi_T, by decide, Or.inr ⟨"CutPlanner", gd_in1 46 (by decide +kernel) (by decide +kernel)⟩⟩
theorem kp_P_79 : zd_FP classes gd_T "CutPlanner" 79 1 3 := ⟨R_T, F_T, 6, ft_T, rfl, wi_T, by decide, Or.inr ⟨"CutPlanner", gd_in1 46 (by decide +kernel) (by decide +kernel)⟩, to_T, n_T, rfl, by decide +kernel⟩
theorem kc_P_84 : zd_C gd_T "CutPlanner" 84 y_T_newAction b_T_newAction 3 (some .int) 1 := ⟨wc_T_newAction, gd_in1 2 (by decide +kernel) (by decide +kernel), ⟨by decide, by decide⟩, by decide +kernel, by decide, Or.inl (gd_in2 216 (by decide +kernel) (by decide +kernel))⟩
theorem ki_T_newAction : Cond.instanceMethod y_T_newAction ∈ gd_T := gd_in2 217 (by decide +kernel) (by decide +kernel)
theorem ke_T_newAction : Cond.selects y_T_newAction.cls y_T_newAction y_T_newAction ∈ gd_T := gd_in2 218 (by decide +kernel) (by decide +kernel)
theorem kc_P_88 : zd_C gd_T "CutPlanner" 88 y_P_refuseUnknownAction b_P_refuseUnknownAction 2 (none) 1 := ⟨wc_P_refuseUnknownAction, gd_in1 1 (by decide +kernel) (by decide +kernel), ⟨by decide, by decide⟩, by decide +kernel, by decide, Or.inl (gd_in2 228 (by decide +kernel) (by decide +kernel))⟩
theorem ki_P_refuseUnknownAction : Cond.instanceMethod y_P_refuseUnknownAction ∈ gd_T := gd_in2 230 (by decide +kernel) (by decide +kernel)
theorem ke_P_refuseUnknownAction : Cond.selects y_P_refuseUnknownAction.cls y_P_refuseUnknownAction y_P_refuseUnknownAction ∈ gd_T := gd_sel (n := 7) 14 (by decide +kernel)
theorem kc_P_91 : zd_C gd_T "CutPlanner" 91 y_P_refuseUnknownFact b_P_refuseUnknownFact 2 (none) 1 := ⟨wc_P_refuseUnknownFact, gd_in1 1 (by decide +kernel) (by decide +kernel), ⟨by decide, by decide⟩, by decide +kernel, by decide, Or.inl (gd_in3 8 (by decide +kernel) (by decide +kernel))⟩
theorem ki_P_refuseUnknownFact : Cond.instanceMethod y_P_refuseUnknownFact ∈ gd_T := gd_in3 10 (by decide +kernel) (by decide +kernel)
theorem ke_P_refuseUnknownFact : Cond.selects y_P_refuseUnknownFact.cls y_P_refuseUnknownFact y_P_refuseUnknownFact ∈ gd_T := gd_sel (n := 7) 15 (by decide +kernel)
theorem kf_P_96 : zd_F classes gd_T "CutPlanner" 96 1 1 := ⟨R_T, F_T, 6, rfl, wi_T, by decide, Or.inr ⟨"CutPlanner", gd_in1 40 (by decide +kernel) (by decide +kernel)⟩⟩
theorem kc_P_100 : zd_C gd_T "CutPlanner" 100 y_P_has b_P_has 2 (some .boolean) 2 := ⟨wc_P_has, gd_in1 1 (by decide +kernel) (by decide +kernel), ⟨by decide, by decide⟩, by decide +kernel, by decide, Or.inl (gd_in3 14 (by decide +kernel) (by decide +kernel))⟩
theorem ks_P_has : Cond.static y_P_has ∈ gd_T := gd_in2 22 (by decide +kernel) (by decide +kernel)
theorem kf_P_106 : zd_F classes gd_T "CutPlanner" 106 1 4 := ⟨R_T, F_T, 6, rfl, wi_T, by decide, Or.inr ⟨"CutPlanner", gd_in1 49 (by decide +kernel) (by decide +kernel)⟩⟩
theorem kp_P_106 : zd_FP classes gd_T "CutPlanner" 106 1 4 := ⟨R_T, F_T, 6, ft_T, rfl, wi_T, by decide, Or.inr ⟨"CutPlanner", gd_in1 49 (by decide +kernel) (by decide +kernel)⟩, to_T, n_T, rfl, by decide +kernel⟩
theorem kc_P_109 : zd_C gd_T "CutPlanner" 109 y_T_allows b_T_allows 3 (some .boolean) 2 := ⟨wc_T_allows, gd_in1 2 (by decide +kernel) (by decide +kernel), ⟨by decide, by decide⟩, by decide +kernel, by decide, Or.inl (gd_in2 100 (by decide +kernel) (by decide +kernel))⟩
theorem ki_T_allows : Cond.instanceMethod y_T_allows ∈ gd_T := gd_in1 207 (by decide +kernel) (by decide +kernel)
theorem ke_T_allows : Cond.selects y_T_allows.cls y_T_allows y_T_allows ∈ gd_T := gd_in1 208 (by decide +kernel) (by decide +kernel)
theorem kc_P_114 : zd_C gd_T "CutPlanner" 114 y_T_after b_T_after 3 (some .int) 2 := ⟨wc_T_after, gd_in1 2 (by decide +kernel) (by decide +kernel), ⟨by decide, by decide⟩, by decide +kernel, by decide, Or.inl (gd_in2 101 (by decide +kernel) (by decide +kernel))⟩
theorem ki_T_after : Cond.instanceMethod y_T_after ∈ gd_T := gd_in1 214 (by decide +kernel) (by decide +kernel)
theorem ke_T_after : Cond.selects y_T_after.cls y_T_after y_T_after ∈ gd_T := gd_in1 215 (by decide +kernel) (by decide +kernel)
theorem kc_P_118 : zd_C gd_T "CutPlanner" 118 y_T_isMet b_T_isMet 2 (some .boolean) 1 := ⟨wc_T_isMet, gd_in1 2 (by decide +kernel) (by decide +kernel), ⟨by decide, by decide⟩, by decide +kernel, by decide, Or.inl (gd_in2 102 (by decide +kernel) (by decide +kernel))⟩
theorem ki_T_isMet : Cond.instanceMethod y_T_isMet ∈ gd_T := gd_in1 226 (by decide +kernel) (by decide +kernel)
theorem ke_T_isMet : Cond.selects y_T_isMet.cls y_T_isMet y_T_isMet ∈ gd_T := gd_in1 227 (by decide +kernel) (by decide +kernel)
theorem kc_P_122 : zd_C gd_T "CutPlanner" 122 y_S_explore b_S_explore 5 (none) 1 := ⟨wc_S_explore, gd_in1 3 (by decide +kernel) (by decide +kernel), ⟨by decide, by decide⟩, by decide +kernel, by decide, Or.inl (gd_in1 186 (by decide +kernel) (by decide +kernel))⟩
theorem ki_S_explore : Cond.instanceMethod y_S_explore ∈ gd_T := gd_in1 187 (by decide +kernel) (by decide +kernel)
theorem ke_S_explore : Cond.selects y_S_explore.cls y_S_explore y_S_explore ∈ gd_T := gd_in1 188 (by decide +kernel) (by decide +kernel)
theorem kc_P_125 : zd_C gd_T "CutPlanner" 125 y_R_empty b_R_empty 1 (none) 0 := ⟨wc_R_empty, gd_in1 5 (by decide +kernel) (by decide +kernel), ⟨by decide, by decide⟩, by decide +kernel, by decide, Or.inl (gd_in1 217 (by decide +kernel) (by decide +kernel))⟩
theorem ki_R_empty : Cond.instanceMethod y_R_empty ∈ gd_T := gd_in1 218 (by decide +kernel) (by decide +kernel)
theorem ke_R_empty : Cond.selects y_R_empty.cls y_R_empty y_R_empty ∈ gd_T := gd_in1 219 (by decide +kernel) (by decide +kernel)
theorem kc_P_128 : zd_C gd_T "CutPlanner" 128 y_S_leastToMet b_S_leastToMet 2 (some .int) 0 := ⟨wc_S_leastToMet, gd_in1 3 (by decide +kernel) (by decide +kernel), ⟨by decide, by decide⟩, by decide +kernel, by decide, Or.inl (gd_in1 221 (by decide +kernel) (by decide +kernel))⟩
theorem ki_S_leastToMet : Cond.instanceMethod y_S_leastToMet ∈ gd_T := gd_in1 222 (by decide +kernel) (by decide +kernel)
theorem ke_S_leastToMet : Cond.selects y_S_leastToMet.cls y_S_leastToMet y_S_leastToMet ∈ gd_T := gd_in1 223 (by decide +kernel) (by decide +kernel)
theorem kc_P_132 : zd_C gd_T "CutPlanner" 132 y_S_writeBest b_S_writeBest 7 (none) 3 := ⟨wc_S_writeBest, gd_in1 3 (by decide +kernel) (by decide +kernel), ⟨by decide, by decide⟩, by decide +kernel, by decide, Or.inl (gd_in1 229 (by decide +kernel) (by decide +kernel))⟩
theorem ki_S_writeBest : Cond.instanceMethod y_S_writeBest ∈ gd_T := gd_in1 230 (by decide +kernel) (by decide +kernel)
theorem ke_S_writeBest : Cond.selects y_S_writeBest.cls y_S_writeBest y_S_writeBest ∈ gd_T := gd_in1 231 (by decide +kernel) (by decide +kernel)
theorem kf_P_136 : zd_F classes gd_T "CutPlanner" 136 2 1 := ⟨R_R, F_R, 2, rfl, wi_R, by decide, Or.inr ⟨"CutPlanner", gd_in1 105 (by decide +kernel) (by decide +kernel)⟩⟩
theorem kp_P_136 : zd_FP classes gd_T "CutPlanner" 136 2 1 := ⟨R_R, F_R, 2, ft_R, rfl, wi_R, by decide, Or.inr ⟨"CutPlanner", gd_in1 105 (by decide +kernel) (by decide +kernel)⟩, to_R, n_R, rfl, by decide +kernel⟩
theorem kf_P_139 : zd_F classes gd_T "CutPlanner" 139 2 0 := ⟨R_R, F_R, 2, rfl, wi_R, by decide, Or.inr ⟨"CutPlanner", gd_in1 103 (by decide +kernel) (by decide +kernel)⟩⟩
theorem kf_P_143 : zd_F classes gd_T "CutPlanner" 143 3 5 := ⟨R_S, F_S, 6, rfl, wi_S, by decide, Or.inr ⟨"CutPlanner", gd_in1 82 (by decide +kernel) (by decide +kernel)⟩⟩
theorem kp_P_143 : zd_FP classes gd_T "CutPlanner" 143 3 5 := ⟨R_S, F_S, 6, ft_S, rfl, wi_S, by decide, Or.inr ⟨"CutPlanner", gd_in1 82 (by decide +kernel) (by decide +kernel)⟩, to_S, n_S, rfl, by decide +kernel⟩
theorem kc_P_146 : zd_C gd_T "CutPlanner" 146 y_S_cameTo b_S_cameTo 3 (some .boolean) 1 := ⟨wc_S_cameTo, gd_in1 3 (by decide +kernel) (by decide +kernel), ⟨by decide, by decide⟩, by decide +kernel, by decide, Or.inl (gd_in3 45 (by decide +kernel) (by decide +kernel))⟩
theorem ki_S_cameTo : Cond.instanceMethod y_S_cameTo ∈ gd_T := gd_in3 46 (by decide +kernel) (by decide +kernel)
theorem ke_S_cameTo : Cond.selects y_S_cameTo.cls y_S_cameTo y_S_cameTo ∈ gd_T := gd_in3 47 (by decide +kernel) (by decide +kernel)
theorem kf_P_149 : zd_F classes gd_T "CutPlanner" 149 1 0 := ⟨R_T, F_T, 6, rfl, wi_T, by decide, Or.inr ⟨"CutPlanner", gd_in1 36 (by decide +kernel) (by decide +kernel)⟩⟩
theorem kc_P_152 : zd_C gd_T "CutPlanner" 152 y_V_measure b_V_measure 9 (none) 4 := ⟨wc_V_measure, gd_in1 6 (by decide +kernel) (by decide +kernel), ⟨by decide, by decide⟩, by decide +kernel, by decide, Or.inl (gd_in2 17 (by decide +kernel) (by decide +kernel))⟩
theorem ki_V_measure : Cond.instanceMethod y_V_measure ∈ gd_T := gd_in2 18 (by decide +kernel) (by decide +kernel)
theorem ke_V_measure : Cond.selects y_V_measure.cls y_V_measure y_V_measure ∈ gd_T := gd_in2 19 (by decide +kernel) (by decide +kernel)
theorem kf_P_156 : zd_F classes gd_T "CutPlanner" 156 4 1 := ⟨R_V, F_V, 2, rfl, wi_V, by decide, Or.inr ⟨"CutPlanner", gd_in1 119 (by decide +kernel) (by decide +kernel)⟩⟩
theorem kc_P_159 : zd_C gd_T "CutPlanner" 159 y_P_orNone b_P_orNone 1 (some .int) 1 := ⟨wc_P_orNone, gd_in1 1 (by decide +kernel) (by decide +kernel), ⟨by decide, by decide⟩, by decide +kernel, by decide, Or.inl (gd_in2 40 (by decide +kernel) (by decide +kernel))⟩
theorem ks_P_orNone : Cond.static y_P_orNone ∈ gd_T := gd_in2 41 (by decide +kernel) (by decide +kernel)
theorem kf_P_162 : zd_F classes gd_T "CutPlanner" 162 1 5 := ⟨R_T, F_T, 6, rfl, wi_T, by decide, Or.inr ⟨"CutPlanner", gd_in1 52 (by decide +kernel) (by decide +kernel)⟩⟩
theorem kp_P_162 : zd_FP classes gd_T "CutPlanner" 162 1 5 := ⟨R_T, F_T, 6, ft_T, rfl, wi_T, by decide, Or.inr ⟨"CutPlanner", gd_in1 52 (by decide +kernel) (by decide +kernel)⟩, to_T, n_T, rfl, by decide +kernel⟩
theorem kc_P_165 : zd_C gd_T "CutPlanner" 165 y_V_joined b_V_joined 5 (some .int) 2 := ⟨wc_V_joined, gd_in1 6 (by decide +kernel) (by decide +kernel), ⟨by decide, by decide⟩, by decide +kernel, by decide, Or.inl (gd_in2 39 (by decide +kernel) (by decide +kernel))⟩
theorem ki_V_joined : Cond.instanceMethod y_V_joined ∈ gd_T := gd_in2 26 (by decide +kernel) (by decide +kernel)
theorem ke_V_joined : Cond.selects y_V_joined.cls y_V_joined y_V_joined ∈ gd_T := gd_in2 27 (by decide +kernel) (by decide +kernel)
theorem kc_P_169 : zd_C gd_T "CutPlanner" 169 y_U_collect b_U_collect 4 (none) 1 := ⟨wc_U_collect, gd_in1 7 (by decide +kernel) (by decide +kernel), ⟨by decide, by decide⟩, by decide +kernel, by decide, Or.inl (gd_in2 48 (by decide +kernel) (by decide +kernel))⟩
theorem ki_U_collect : Cond.instanceMethod y_U_collect ∈ gd_T := gd_in2 49 (by decide +kernel) (by decide +kernel)
theorem ke_U_collect : Cond.selects y_U_collect.cls y_U_collect y_U_collect ∈ gd_T := gd_in2 50 (by decide +kernel) (by decide +kernel)
theorem kf_P_172 : zd_F classes gd_T "CutPlanner" 172 5 6 := ⟨R_U, F_U, 7, rfl, wi_U, by decide, Or.inr ⟨"CutPlanner", gd_in1 140 (by decide +kernel) (by decide +kernel)⟩⟩
theorem kp_P_172 : zd_FP classes gd_T "CutPlanner" 172 5 6 := ⟨R_U, F_U, 7, ft_U, rfl, wi_U, by decide, Or.inr ⟨"CutPlanner", gd_in1 140 (by decide +kernel) (by decide +kernel)⟩, to_U, n_U, rfl, by decide +kernel⟩
theorem kf_P_175 : zd_F classes gd_T "CutPlanner" 175 5 5 := ⟨R_U, F_U, 7, rfl, wi_U, by decide, Or.inr ⟨"CutPlanner", gd_in1 138 (by decide +kernel) (by decide +kernel)⟩⟩
theorem kp_P_175 : zd_FP classes gd_T "CutPlanner" 175 5 5 := ⟨R_U, F_U, 7, ft_U, rfl, wi_U, by decide, Or.inr ⟨"CutPlanner", gd_in1 138 (by decide +kernel) (by decide +kernel)⟩, to_U, n_U, rfl, by decide +kernel⟩
theorem kf_P_178 : zd_F classes gd_T "CutPlanner" 178 5 4 := ⟨R_U, F_U, 7, rfl, wi_U, by decide, Or.inr ⟨"CutPlanner", gd_in1 136 (by decide +kernel) (by decide +kernel)⟩⟩
theorem kc_P_181 : zd_C gd_T "CutPlanner" 181 y_T_addersOf b_T_addersOf 4 (some .int) 1 := ⟨wc_T_addersOf, gd_in1 2 (by decide +kernel) (by decide +kernel), ⟨by decide, by decide⟩, by decide +kernel, by decide, Or.inl (gd_in3 64 (by decide +kernel) (by decide +kernel))⟩
theorem ki_T_addersOf : Cond.instanceMethod y_T_addersOf ∈ gd_T := gd_in3 65 (by decide +kernel) (by decide +kernel)
theorem ke_T_addersOf : Cond.selects y_T_addersOf.cls y_T_addersOf y_T_addersOf ∈ gd_T := gd_in3 66 (by decide +kernel) (by decide +kernel)
theorem kk_P_184 : Cond.constant "CutPlanner" 184 (nI 1000000) ∈ gd_T := gd_in2 43 (by decide +kernel) (by decide +kernel)
theorem kc_P_187 : zd_C gd_T "CutPlanner" 187 y_R_append b_R_append 2 (none) 1 := ⟨wc_R_append, gd_in1 5 (by decide +kernel) (by decide +kernel), ⟨by decide, by decide⟩, by decide +kernel, by decide, Or.inl (gd_in3 77 (by decide +kernel) (by decide +kernel))⟩
theorem ki_R_append : Cond.instanceMethod y_R_append ∈ gd_T := gd_in1 238 (by decide +kernel) (by decide +kernel)
theorem ke_R_append : Cond.selects y_R_append.cls y_R_append y_R_append ∈ gd_T := gd_in1 239 (by decide +kernel) (by decide +kernel)
theorem kf_M_7 : zd_F classes gd_T "CutPlannerModel" 7 6 5 := ⟨R_M, F_M, 21, rfl, wi_M, by decide, Or.inl (gd_in3 89 (by decide +kernel) (by decide +kernel))⟩
theorem kf_M_13 : zd_F classes gd_T "CutPlannerModel" 13 6 6 := ⟨R_M, F_M, 21, rfl, wi_M, by decide, Or.inl (gd_in3 90 (by decide +kernel) (by decide +kernel))⟩
theorem kf_M_16 : zd_F classes gd_T "CutPlannerModel" 16 6 7 := ⟨R_M, F_M, 21, rfl, wi_M, by decide, Or.inl (gd_in3 91 (by decide +kernel) (by decide +kernel))⟩
theorem kf_M_19 : zd_F classes gd_T "CutPlannerModel" 19 6 8 := ⟨R_M, F_M, 21, rfl, wi_M, by decide, Or.inl (gd_in3 92 (by decide +kernel) (by decide +kernel))⟩
theorem kf_M_22 : zd_F classes gd_T "CutPlannerModel" 22 6 11 := ⟨R_M, F_M, 21, rfl, wi_M, by decide, Or.inl (gd_in3 95 (by decide +kernel) (by decide +kernel))⟩
theorem kf_M_25 : zd_F classes gd_T "CutPlannerModel" 25 6 13 := ⟨R_M, F_M, 21, rfl, wi_M, by decide, Or.inl (gd_in3 97 (by decide +kernel) (by decide +kernel))⟩
theorem kf_M_28 : zd_F classes gd_T "CutPlannerModel" 28 6 14 := ⟨R_M, F_M, 21, rfl, wi_M, by decide, Or.inl (gd_in3 98 (by decide +kernel) (by decide +kernel))⟩
theorem kf_M_31 : zd_F classes gd_T "CutPlannerModel" 31 6 15 := ⟨R_M, F_M, 21, rfl, wi_M, by decide, Or.inl (gd_in3 99 (by decide +kernel) (by decide +kernel))⟩
theorem kf_M_35 : zd_F classes gd_T "CutPlannerModel" 35 6 16 := ⟨R_M, F_M, 21, rfl, wi_M, by decide, Or.inl (gd_in3 100 (by decide +kernel) (by decide +kernel))⟩
theorem kf_M_38 : zd_F classes gd_T "CutPlannerModel" 38 6 17 := ⟨R_M, F_M, 21, rfl, wi_M, by decide, Or.inl (gd_in3 101 (by decide +kernel) (by decide +kernel))⟩
theorem kf_M_41 : zd_F classes gd_T "CutPlannerModel" 41 6 19 := ⟨R_M, F_M, 21, rfl, wi_M, by decide, Or.inl (gd_in3 103 (by decide +kernel) (by decide +kernel))⟩
theorem kf_M_44 : zd_F classes gd_T "CutPlannerModel" 44 6 0 := ⟨R_M, F_M, 21, rfl, wi_M, by decide, Or.inl (gd_in3 84 (by decide +kernel) (by decide +kernel))⟩
theorem kp_M_44 : zd_FP classes gd_T "CutPlannerModel" 44 6 0 := ⟨R_M, F_M, 21, ft_M, rfl, wi_M, by decide, Or.inl (gd_in3 84 (by decide +kernel) (by decide +kernel)), to_M, n_M, rfl, by decide +kernel⟩
theorem kf_M_48 : zd_F classes gd_T "CutPlannerModel" 48 6 1 := ⟨R_M, F_M, 21, rfl, wi_M, by decide, Or.inl (gd_in3 85 (by decide +kernel) (by decide +kernel))⟩
theorem kp_M_48 : zd_FP classes gd_T "CutPlannerModel" 48 6 1 := ⟨R_M, F_M, 21, ft_M, rfl, wi_M, by decide, Or.inl (gd_in3 85 (by decide +kernel) (by decide +kernel)), to_M, n_M, rfl, by decide +kernel⟩
theorem kf_M_51 : zd_F classes gd_T "CutPlannerModel" 51 6 4 := ⟨R_M, F_M, 21, rfl, wi_M, by decide, Or.inl (gd_in3 88 (by decide +kernel) (by decide +kernel))⟩
theorem kp_M_51 : zd_FP classes gd_T "CutPlannerModel" 51 6 4 := ⟨R_M, F_M, 21, ft_M, rfl, wi_M, by decide, Or.inl (gd_in3 88 (by decide +kernel) (by decide +kernel)), to_M, n_M, rfl, by decide +kernel⟩
theorem kf_M_54 : zd_F classes gd_T "CutPlannerModel" 54 6 12 := ⟨R_M, F_M, 21, rfl, wi_M, by decide, Or.inl (gd_in3 96 (by decide +kernel) (by decide +kernel))⟩
theorem kp_M_54 : zd_FP classes gd_T "CutPlannerModel" 54 6 12 := ⟨R_M, F_M, 21, ft_M, rfl, wi_M, by decide, Or.inl (gd_in3 96 (by decide +kernel) (by decide +kernel)), to_M, n_M, rfl, by decide +kernel⟩
theorem kf_M_57 : zd_F classes gd_T "CutPlannerModel" 57 6 2 := ⟨R_M, F_M, 21, rfl, wi_M, by decide, Or.inl (gd_in3 86 (by decide +kernel) (by decide +kernel))⟩
theorem kp_M_57 : zd_FP classes gd_T "CutPlannerModel" 57 6 2 := ⟨R_M, F_M, 21, ft_M, rfl, wi_M, by decide, Or.inl (gd_in3 86 (by decide +kernel) (by decide +kernel)), to_M, n_M, rfl, by decide +kernel⟩
theorem kf_M_60 : zd_F classes gd_T "CutPlannerModel" 60 6 9 := ⟨R_M, F_M, 21, rfl, wi_M, by decide, Or.inl (gd_in3 93 (by decide +kernel) (by decide +kernel))⟩
theorem kp_M_60 : zd_FP classes gd_T "CutPlannerModel" 60 6 9 := ⟨R_M, F_M, 21, ft_M, rfl, wi_M, by decide, Or.inl (gd_in3 93 (by decide +kernel) (by decide +kernel)), to_M, n_M, rfl, by decide +kernel⟩
theorem kf_M_63 : zd_F classes gd_T "CutPlannerModel" 63 6 3 := ⟨R_M, F_M, 21, rfl, wi_M, by decide, Or.inl (gd_in3 87 (by decide +kernel) (by decide +kernel))⟩
theorem kp_M_63 : zd_FP classes gd_T "CutPlannerModel" 63 6 3 := ⟨R_M, F_M, 21, ft_M, rfl, wi_M, by decide, Or.inl (gd_in3 87 (by decide +kernel) (by decide +kernel)), to_M, n_M, rfl, by decide +kernel⟩
theorem kc_M_66 : zd_C gd_T "CutPlannerModel" 66 y_M_changed b_M_changed 1 (none) 0 := ⟨wc_M_changed, gd_in1 8 (by decide +kernel) (by decide +kernel), ⟨by decide, by decide⟩, by decide +kernel, by decide, Or.inl (gd_in3 157 (by decide +kernel) (by decide +kernel))⟩
theorem ki_M_changed : Cond.instanceMethod y_M_changed ∈ gd_T := gd_in3 159 (by decide +kernel) (by decide +kernel)
theorem ke_M_changed : Cond.selects y_M_changed.cls y_M_changed y_M_changed ∈ gd_T := gd_sel (n := 21) 16 (by decide +kernel)
theorem kc_M_69 : zd_C gd_T "CutPlannerModel" 69 y_M_noAction b_M_noAction 2 (some .boolean) 1 := ⟨wc_M_noAction, gd_in1 8 (by decide +kernel) (by decide +kernel), ⟨by decide, by decide⟩, by decide +kernel, by decide, Or.inl (gd_in3 169 (by decide +kernel) (by decide +kernel))⟩
theorem ki_M_noAction : Cond.instanceMethod y_M_noAction ∈ gd_T := gd_in3 171 (by decide +kernel) (by decide +kernel)
theorem ke_M_noAction : Cond.selects y_M_noAction.cls y_M_noAction y_M_noAction ∈ gd_T := gd_sel (n := 21) 17 (by decide +kernel)
theorem kc_M_73 : zd_C gd_T "CutPlannerModel" 73 y_M_noFact b_M_noFact 2 (some .boolean) 1 := ⟨wc_M_noFact, gd_in1 8 (by decide +kernel) (by decide +kernel), ⟨by decide, by decide⟩, by decide +kernel, by decide, Or.inl (gd_in3 173 (by decide +kernel) (by decide +kernel))⟩
theorem ki_M_noFact : Cond.instanceMethod y_M_noFact ∈ gd_T := gd_in3 175 (by decide +kernel) (by decide +kernel)
theorem ke_M_noFact : Cond.selects y_M_noFact.cls y_M_noFact y_M_noFact ∈ gd_T := gd_sel (n := 21) 18 (by decide +kernel)
theorem kc_M_76 : zd_C gd_T "CutPlannerModel" 76 y_M_can b_M_can 3 (some .boolean) 2 := ⟨wc_M_can, gd_in1 8 (by decide +kernel) (by decide +kernel), ⟨by decide, by decide⟩, by decide +kernel, by decide, Or.inl (gd_in3 189 (by decide +kernel) (by decide +kernel))⟩
theorem ki_M_can : Cond.instanceMethod y_M_can ∈ gd_T := gd_in3 191 (by decide +kernel) (by decide +kernel)
theorem ke_M_can : Cond.selects y_M_can.cls y_M_can y_M_can ∈ gd_T := gd_sel (n := 21) 19 (by decide +kernel)
theorem kc_M_80 : zd_C gd_T "CutPlannerModel" 80 y_M_after b_M_after 3 (some .int) 2 := ⟨wc_M_after, gd_in1 8 (by decide +kernel) (by decide +kernel), ⟨by decide, by decide⟩, by decide +kernel, by decide, Or.inl (gd_in3 197 (by decide +kernel) (by decide +kernel))⟩
theorem ki_M_after : Cond.instanceMethod y_M_after ∈ gd_T := gd_in3 199 (by decide +kernel) (by decide +kernel)
theorem ke_M_after : Cond.selects y_M_after.cls y_M_after y_M_after ∈ gd_T := gd_sel (n := 21) 20 (by decide +kernel)
theorem kc_M_84 : zd_C gd_T "CutPlannerModel" 84 y_M_isMet b_M_isMet 2 (some .boolean) 1 := ⟨wc_M_isMet, gd_in1 8 (by decide +kernel) (by decide +kernel), ⟨by decide, by decide⟩, by decide +kernel, by decide, Or.inl (gd_in3 201 (by decide +kernel) (by decide +kernel))⟩
theorem ki_M_isMet : Cond.instanceMethod y_M_isMet ∈ gd_T := gd_in3 203 (by decide +kernel) (by decide +kernel)
theorem ke_M_isMet : Cond.selects y_M_isMet.cls y_M_isMet y_M_isMet ∈ gd_T := gd_sel (n := 21) 21 (by decide +kernel)
theorem kk_M_87 : Cond.constant "CutPlannerModel" 87 (nI 1048576) ∈ gd_T := gd_in3 213 (by decide +kernel) (by decide +kernel)
theorem kc_M_88 : zd_C gd_T "CutPlannerModel" 88 y_M_findCosts b_M_findCosts 5 (none) 0 := ⟨wc_M_findCosts, gd_in1 8 (by decide +kernel) (by decide +kernel), ⟨by decide, by decide⟩, by decide +kernel, by decide, Or.inl (gd_in3 209 (by decide +kernel) (by decide +kernel))⟩
theorem ki_M_findCosts : Cond.instanceMethod y_M_findCosts ∈ gd_T := gd_in3 211 (by decide +kernel) (by decide +kernel)
theorem ke_M_findCosts : Cond.selects y_M_findCosts.cls y_M_findCosts y_M_findCosts ∈ gd_T := gd_sel (n := 21) 22 (by decide +kernel)
theorem kf_M_91 : zd_F classes gd_T "CutPlannerModel" 91 6 10 := ⟨R_M, F_M, 21, rfl, wi_M, by decide, Or.inl (gd_in3 94 (by decide +kernel) (by decide +kernel))⟩
theorem kp_M_91 : zd_FP classes gd_T "CutPlannerModel" 91 6 10 := ⟨R_M, F_M, 21, ft_M, rfl, wi_M, by decide, Or.inl (gd_in3 94 (by decide +kernel) (by decide +kernel)), to_M, n_M, rfl, by decide +kernel⟩
theorem kc_M_94 : zd_C gd_T "CutPlannerModel" 94 y_M_bestAction b_M_bestAction 3 (some .int) 1 := ⟨wc_M_bestAction, gd_in1 8 (by decide +kernel) (by decide +kernel), ⟨by decide, by decide⟩, by decide +kernel, by decide, Or.inl (gd_in3 214 (by decide +kernel) (by decide +kernel))⟩
theorem ki_M_bestAction : Cond.instanceMethod y_M_bestAction ∈ gd_T := gd_in3 216 (by decide +kernel) (by decide +kernel)
theorem ke_M_bestAction : Cond.selects y_M_bestAction.cls y_M_bestAction y_M_bestAction ∈ gd_T := gd_sel (n := 21) 23 (by decide +kernel)
theorem kc_M_98 : zd_C gd_T "CutPlannerModel" 98 y_M_comeTo b_M_comeTo 5 (none) 0 := ⟨wc_M_comeTo, gd_in1 8 (by decide +kernel) (by decide +kernel), ⟨by decide, by decide⟩, by decide +kernel, by decide, Or.inl (gd_in3 230 (by decide +kernel) (by decide +kernel))⟩
theorem ki_M_comeTo : Cond.instanceMethod y_M_comeTo ∈ gd_T := gd_in3 232 (by decide +kernel) (by decide +kernel)
theorem ke_M_comeTo : Cond.selects y_M_comeTo.cls y_M_comeTo y_M_comeTo ∈ gd_T := gd_sel (n := 21) 24 (by decide +kernel)
theorem kc_M_101 : zd_C gd_T "CutPlannerModel" 101 y_M_over b_M_over 5 (some .int) 2 := ⟨wc_M_over, gd_in1 8 (by decide +kernel) (by decide +kernel), ⟨by decide, by decide⟩, by decide +kernel, by decide, Or.inl (gd_in4 10 (by decide +kernel) (by decide +kernel))⟩
theorem ki_M_over : Cond.instanceMethod y_M_over ∈ gd_T := gd_in4 12 (by decide +kernel) (by decide +kernel)
theorem ke_M_over : Cond.selects y_M_over.cls y_M_over y_M_over ∈ gd_T := gd_sel (n := 21) 27 (by decide +kernel)
theorem kc_M_105 : zd_C gd_T "CutPlannerModel" 105 y_M_ownRates b_M_ownRates 2 (none) 0 := ⟨wc_M_ownRates, gd_in1 8 (by decide +kernel) (by decide +kernel), ⟨by decide, by decide⟩, by decide +kernel, by decide, Or.inl (gd_in4 2 (by decide +kernel) (by decide +kernel))⟩
theorem ki_M_ownRates : Cond.instanceMethod y_M_ownRates ∈ gd_T := gd_in4 4 (by decide +kernel) (by decide +kernel)
theorem ke_M_ownRates : Cond.selects y_M_ownRates.cls y_M_ownRates y_M_ownRates ∈ gd_T := gd_sel (n := 21) 25 (by decide +kernel)
theorem kc_M_108 : zd_C gd_T "CutPlannerModel" 108 y_M_findLevels b_M_findLevels 7 (none) 2 := ⟨wc_M_findLevels, gd_in1 8 (by decide +kernel) (by decide +kernel), ⟨by decide, by decide⟩, by decide +kernel, by decide, Or.inl (gd_in4 6 (by decide +kernel) (by decide +kernel))⟩
theorem ki_M_findLevels : Cond.instanceMethod y_M_findLevels ∈ gd_T := gd_in4 8 (by decide +kernel) (by decide +kernel)
theorem ke_M_findLevels : Cond.selects y_M_findLevels.cls y_M_findLevels y_M_findLevels ∈ gd_T := gd_sel (n := 21) 26 (by decide +kernel)
theorem kc_M_112 : zd_C gd_T "CutPlannerModel" 112 y_M_told b_M_told 1 (some .int) 1 := ⟨wc_M_told, gd_in1 8 (by decide +kernel) (by decide +kernel), ⟨by decide, by decide⟩, by decide +kernel, by decide, Or.inl (gd_in4 14 (by decide +kernel) (by decide +kernel))⟩
theorem ks_M_told : Cond.static y_M_told ∈ gd_T := gd_in4 15 (by decide +kernel) (by decide +kernel)
theorem kc_M_115 : zd_C gd_T "CutPlannerModel" 115 y_M_base b_M_base 4 (some .int) 1 := ⟨wc_M_base, gd_in1 8 (by decide +kernel) (by decide +kernel), ⟨by decide, by decide⟩, by decide +kernel, by decide, Or.inl (gd_in4 33 (by decide +kernel) (by decide +kernel))⟩
theorem ki_M_base : Cond.instanceMethod y_M_base ∈ gd_T := gd_in4 35 (by decide +kernel) (by decide +kernel)
theorem ke_M_base : Cond.selects y_M_base.cls y_M_base y_M_base ∈ gd_T := gd_sel (n := 21) 30 (by decide +kernel)
theorem kf_M_118 : zd_F classes gd_T "CutPlannerModel" 118 6 18 := ⟨R_M, F_M, 21, rfl, wi_M, by decide, Or.inl (gd_in3 102 (by decide +kernel) (by decide +kernel))⟩
theorem kp_M_118 : zd_FP classes gd_T "CutPlannerModel" 118 6 18 := ⟨R_M, F_M, 21, ft_M, rfl, wi_M, by decide, Or.inl (gd_in3 102 (by decide +kernel) (by decide +kernel)), to_M, n_M, rfl, by decide +kernel⟩
theorem kf_M_121 : zd_F classes gd_T "CutPlannerModel" 121 6 20 := ⟨R_M, F_M, 21, rfl, wi_M, by decide, Or.inl (gd_in3 104 (by decide +kernel) (by decide +kernel))⟩
theorem kp_M_121 : zd_FP classes gd_T "CutPlannerModel" 121 6 20 := ⟨R_M, F_M, 21, ft_M, rfl, wi_M, by decide, Or.inl (gd_in3 104 (by decide +kernel) (by decide +kernel)), to_M, n_M, rfl, by decide +kernel⟩
theorem kc_M_124 : zd_C gd_T "CutPlannerModel" 124 y_M_zone b_M_zone 5 (some .int) 0 := ⟨wc_M_zone, gd_in1 8 (by decide +kernel) (by decide +kernel), ⟨by decide, by decide⟩, by decide +kernel, by decide, Or.inl (gd_in4 29 (by decide +kernel) (by decide +kernel))⟩
theorem ki_M_zone : Cond.instanceMethod y_M_zone ∈ gd_T := gd_in4 31 (by decide +kernel) (by decide +kernel)
theorem ke_M_zone : Cond.selects y_M_zone.cls y_M_zone y_M_zone ∈ gd_T := gd_sel (n := 21) 29 (by decide +kernel)
theorem kc_M_128 : zd_C gd_T "CutPlannerModel" 128 y_M_rest b_M_rest 6 (some .int) 1 := ⟨wc_M_rest, gd_in1 8 (by decide +kernel) (by decide +kernel), ⟨by decide, by decide⟩, by decide +kernel, by decide, Or.inl (gd_in4 37 (by decide +kernel) (by decide +kernel))⟩
theorem ki_M_rest : Cond.instanceMethod y_M_rest ∈ gd_T := gd_in4 39 (by decide +kernel) (by decide +kernel)
theorem ke_M_rest : Cond.selects y_M_rest.cls y_M_rest y_M_rest ∈ gd_T := gd_sel (n := 21) 31 (by decide +kernel)
theorem kc_M_131 : zd_C gd_T "CutPlannerModel" 131 y_M_actionsAcross b_M_actionsAcross 6 (some .int) 2 := ⟨wc_M_actionsAcross, gd_in1 8 (by decide +kernel) (by decide +kernel), ⟨by decide, by decide⟩, by decide +kernel, by decide, Or.inl (gd_in4 41 (by decide +kernel) (by decide +kernel))⟩
theorem ki_M_actionsAcross : Cond.instanceMethod y_M_actionsAcross ∈ gd_T := gd_in4 43 (by decide +kernel) (by decide +kernel)
theorem ke_M_actionsAcross : Cond.selects y_M_actionsAcross.cls y_M_actionsAcross y_M_actionsAcross ∈ gd_T := gd_sel (n := 21) 32 (by decide +kernel)
theorem kc_M_134 : zd_C gd_T "CutPlannerModel" 134 y_M_least b_M_least 4 (some .int) 1 := ⟨wc_M_least, gd_in1 8 (by decide +kernel) (by decide +kernel), ⟨by decide, by decide⟩, by decide +kernel, by decide, Or.inl (gd_in4 45 (by decide +kernel) (by decide +kernel))⟩
theorem ki_M_least : Cond.instanceMethod y_M_least ∈ gd_T := gd_in4 47 (by decide +kernel) (by decide +kernel)
theorem ke_M_least : Cond.selects y_M_least.cls y_M_least y_M_least ∈ gd_T := gd_sel (n := 21) 33 (by decide +kernel)
theorem kc_M_137 : zd_C gd_T "CutPlannerModel" 137 y_M_cutAll b_M_cutAll 6 (none) 0 := ⟨wc_M_cutAll, gd_in1 8 (by decide +kernel) (by decide +kernel), ⟨by decide, by decide⟩, by decide +kernel, by decide, Or.inl (gd_in4 25 (by decide +kernel) (by decide +kernel))⟩
theorem ki_M_cutAll : Cond.instanceMethod y_M_cutAll ∈ gd_T := gd_in4 27 (by decide +kernel) (by decide +kernel)
theorem ke_M_cutAll : Cond.selects y_M_cutAll.cls y_M_cutAll y_M_cutAll ∈ gd_T := gd_sel (n := 21) 28 (by decide +kernel)
theorem kf_U_9 : zd_F classes gd_T "CutPlanner$Cuts" 9 5 2 := ⟨R_U, F_U, 7, rfl, wi_U, by decide, Or.inl (gd_in1 133 (by decide +kernel) (by decide +kernel))⟩
theorem kf_U_15 : zd_F classes gd_T "CutPlanner$Cuts" 15 5 3 := ⟨R_U, F_U, 7, rfl, wi_U, by decide, Or.inl (gd_in1 134 (by decide +kernel) (by decide +kernel))⟩
theorem kf_U_18 : zd_F classes gd_T "CutPlanner$Cuts" 18 5 4 := ⟨R_U, F_U, 7, rfl, wi_U, by decide, Or.inl (gd_in1 135 (by decide +kernel) (by decide +kernel))⟩
theorem kf_U_21 : zd_F classes gd_T "CutPlanner$Cuts" 21 5 0 := ⟨R_U, F_U, 7, rfl, wi_U, by decide, Or.inl (gd_in1 131 (by decide +kernel) (by decide +kernel))⟩
theorem kf_U_25 : zd_F classes gd_T "CutPlanner$Cuts" 25 5 1 := ⟨R_U, F_U, 7, rfl, wi_U, by decide, Or.inl (gd_in1 132 (by decide +kernel) (by decide +kernel))⟩
theorem kf_U_29 : zd_F classes gd_T "CutPlanner$Cuts" 29 1 0 := ⟨R_T, F_T, 6, rfl, wi_T, by decide, Or.inr ⟨"CutPlanner", gd_in1 34 (by decide +kernel) (by decide +kernel)⟩⟩
theorem kf_U_40 : zd_F classes gd_T "CutPlanner$Cuts" 40 5 5 := ⟨R_U, F_U, 7, rfl, wi_U, by decide, Or.inl (gd_in1 137 (by decide +kernel) (by decide +kernel))⟩
theorem kp_U_40 : zd_FP classes gd_T "CutPlanner$Cuts" 40 5 5 := ⟨R_U, F_U, 7, ft_U, rfl, wi_U, by decide, Or.inl (gd_in1 137 (by decide +kernel) (by decide +kernel)), to_U, n_U, rfl, by decide +kernel⟩
theorem kf_U_44 : zd_F classes gd_T "CutPlanner$Cuts" 44 5 6 := ⟨R_U, F_U, 7, rfl, wi_U, by decide, Or.inl (gd_in1 139 (by decide +kernel) (by decide +kernel))⟩
theorem kp_U_44 : zd_FP classes gd_T "CutPlanner$Cuts" 44 5 6 := ⟨R_U, F_U, 7, ft_U, rfl, wi_U, by decide, Or.inl (gd_in1 139 (by decide +kernel) (by decide +kernel)), to_U, n_U, rfl, by decide +kernel⟩
theorem kc_U_47 : zd_C gd_T "CutPlanner$Cuts" 47 y_U_goalHeight b_U_goalHeight 2 (some .int) 1 := ⟨wc_U_goalHeight, gd_in1 7 (by decide +kernel) (by decide +kernel), ⟨by decide, by decide⟩, by decide +kernel, by decide, Or.inl (gd_in2 55 (by decide +kernel) (by decide +kernel))⟩
theorem ki_U_goalHeight : Cond.instanceMethod y_U_goalHeight ∈ gd_T := gd_in2 57 (by decide +kernel) (by decide +kernel)
theorem ke_U_goalHeight : Cond.selects y_U_goalHeight.cls y_U_goalHeight y_U_goalHeight ∈ gd_T := gd_sel (n := 7) 6 (by decide +kernel)
theorem kk_U_51 : Cond.constant "CutPlanner$Cuts" 51 (nI 1000000) ∈ gd_T := gd_in2 61 (by decide +kernel) (by decide +kernel)
theorem kc_U_52 : zd_C gd_T "CutPlanner$Cuts" 52 y_U_nextCut b_U_nextCut 6 (some .int) 1 := ⟨wc_U_nextCut, gd_in1 7 (by decide +kernel) (by decide +kernel), ⟨by decide, by decide⟩, by decide +kernel, by decide, Or.inl (gd_in2 62 (by decide +kernel) (by decide +kernel))⟩
theorem ki_U_nextCut : Cond.instanceMethod y_U_nextCut ∈ gd_T := gd_in2 64 (by decide +kernel) (by decide +kernel)
theorem ke_U_nextCut : Cond.selects y_U_nextCut.cls y_U_nextCut y_U_nextCut ∈ gd_T := gd_sel (n := 7) 7 (by decide +kernel)
theorem kc_U_55 : zd_C gd_T "CutPlanner$Cuts" 55 y_U_pay b_U_pay 4 (some .int) 1 := ⟨wc_U_pay, gd_in1 7 (by decide +kernel) (by decide +kernel), ⟨by decide, by decide⟩, by decide +kernel, by decide, Or.inl (gd_in2 83 (by decide +kernel) (by decide +kernel))⟩
theorem ki_U_pay : Cond.instanceMethod y_U_pay ∈ gd_T := gd_in2 85 (by decide +kernel) (by decide +kernel)
theorem ke_U_pay : Cond.selects y_U_pay.cls y_U_pay y_U_pay ∈ gd_T := gd_sel (n := 7) 11 (by decide +kernel)
theorem kc_U_58 : zd_C gd_T "CutPlanner$Cuts" 58 y_V_measure b_V_measure 9 (none) 4 := ⟨wc_V_measure, gd_in1 6 (by decide +kernel) (by decide +kernel), ⟨by decide, by decide⟩, by decide +kernel, by decide, Or.inl (gd_in2 59 (by decide +kernel) (by decide +kernel))⟩
theorem kf_U_64 : zd_F classes gd_T "CutPlanner$Cuts" 64 1 5 := ⟨R_T, F_T, 6, rfl, wi_T, by decide, Or.inr ⟨"CutPlanner", gd_in1 51 (by decide +kernel) (by decide +kernel)⟩⟩
theorem kp_U_64 : zd_FP classes gd_T "CutPlanner$Cuts" 64 1 5 := ⟨R_T, F_T, 6, ft_T, rfl, wi_T, by decide, Or.inr ⟨"CutPlanner", gd_in1 51 (by decide +kernel) (by decide +kernel)⟩, to_T, n_T, rfl, by decide +kernel⟩
theorem kc_U_67 : zd_C gd_T "CutPlanner$Cuts" 67 y_V_joined b_V_joined 5 (some .int) 2 := ⟨wc_V_joined, gd_in1 6 (by decide +kernel) (by decide +kernel), ⟨by decide, by decide⟩, by decide +kernel, by decide, Or.inl (gd_in2 60 (by decide +kernel) (by decide +kernel))⟩
theorem kf_U_71 : zd_F classes gd_T "CutPlanner$Cuts" 71 1 3 := ⟨R_T, F_T, 6, rfl, wi_T, by decide, Or.inr ⟨"CutPlanner", gd_in1 47 (by decide +kernel) (by decide +kernel)⟩⟩
theorem kp_U_71 : zd_FP classes gd_T "CutPlanner$Cuts" 71 1 3 := ⟨R_T, F_T, 6, ft_T, rfl, wi_T, by decide, Or.inr ⟨"CutPlanner", gd_in1 47 (by decide +kernel) (by decide +kernel)⟩, to_T, n_T, rfl, by decide +kernel⟩
theorem kf_U_74 : zd_F classes gd_T "CutPlanner$Cuts" 74 1 1 := ⟨R_T, F_T, 6, rfl, wi_T, by decide, Or.inr ⟨"CutPlanner", gd_in1 39 (by decide +kernel) (by decide +kernel)⟩⟩
theorem kc_U_78 : zd_C gd_T "CutPlanner$Cuts" 78 y_V_baseOf b_V_baseOf 5 (some .int) 1 := ⟨wc_V_baseOf, gd_in1 6 (by decide +kernel) (by decide +kernel), ⟨by decide, by decide⟩, by decide +kernel, by decide, Or.inl (gd_in2 66 (by decide +kernel) (by decide +kernel))⟩
theorem ki_V_baseOf : Cond.instanceMethod y_V_baseOf ∈ gd_T := gd_in2 67 (by decide +kernel) (by decide +kernel)
theorem ke_V_baseOf : Cond.selects y_V_baseOf.cls y_V_baseOf y_V_baseOf ∈ gd_T := gd_in2 68 (by decide +kernel) (by decide +kernel)
theorem kc_U_81 : zd_C gd_T "CutPlanner$Cuts" 81 y_U_zoneBefore b_U_zoneBefore 7 (some .int) 1 := ⟨wc_U_zoneBefore, gd_in1 7 (by decide +kernel) (by decide +kernel), ⟨by decide, by decide⟩, by decide +kernel, by decide, Or.inl (gd_in2 70 (by decide +kernel) (by decide +kernel))⟩
theorem ki_U_zoneBefore : Cond.instanceMethod y_U_zoneBefore ∈ gd_T := gd_in2 72 (by decide +kernel) (by decide +kernel)
theorem ke_U_zoneBefore : Cond.selects y_U_zoneBefore.cls y_U_zoneBefore y_U_zoneBefore ∈ gd_T := gd_sel (n := 7) 8 (by decide +kernel)
theorem kc_U_84 : zd_C gd_T "CutPlanner$Cuts" 84 y_U_restBehind b_U_restBehind 7 (some .int) 2 := ⟨wc_U_restBehind, gd_in1 7 (by decide +kernel) (by decide +kernel), ⟨by decide, by decide⟩, by decide +kernel, by decide, Or.inl (gd_in2 74 (by decide +kernel) (by decide +kernel))⟩
theorem ki_U_restBehind : Cond.instanceMethod y_U_restBehind ∈ gd_T := gd_in2 76 (by decide +kernel) (by decide +kernel)
theorem ke_U_restBehind : Cond.selects y_U_restBehind.cls y_U_restBehind y_U_restBehind ∈ gd_T := gd_sel (n := 7) 9 (by decide +kernel)
theorem kc_U_88 : zd_C gd_T "CutPlanner$Cuts" 88 y_U_isBasedIn b_U_isBasedIn 3 (some .boolean) 2 := ⟨wc_U_isBasedIn, gd_in1 7 (by decide +kernel) (by decide +kernel), ⟨by decide, by decide⟩, by decide +kernel, by decide, Or.inl (gd_in2 78 (by decide +kernel) (by decide +kernel))⟩
theorem ki_U_isBasedIn : Cond.instanceMethod y_U_isBasedIn ∈ gd_T := gd_in2 80 (by decide +kernel) (by decide +kernel)
theorem ke_U_isBasedIn : Cond.selects y_U_isBasedIn.cls y_U_isBasedIn y_U_isBasedIn ∈ gd_T := gd_sel (n := 7) 10 (by decide +kernel)
theorem kc_U_92 : zd_C gd_T "CutPlanner$Cuts" 92 y_P_has b_P_has 2 (some .boolean) 2 := ⟨wc_P_has, gd_in1 1 (by decide +kernel) (by decide +kernel), ⟨by decide, by decide⟩, by decide +kernel, by decide, Or.inr ⟨"CutPlanner", gd_in2 82 (by decide +kernel) (by decide +kernel)⟩⟩
theorem kf_V_9 : zd_F classes gd_T "CutPlanner$Levels" 9 4 1 := ⟨R_V, F_V, 2, rfl, wi_V, by decide, Or.inl (gd_in1 118 (by decide +kernel) (by decide +kernel))⟩
theorem kf_V_15 : zd_F classes gd_T "CutPlanner$Levels" 15 4 0 := ⟨R_V, F_V, 2, rfl, wi_V, by decide, Or.inl (gd_in1 117 (by decide +kernel) (by decide +kernel))⟩
theorem kc_V_19 : zd_C gd_T "CutPlanner$Levels" 19 y_P_has b_P_has 2 (some .boolean) 2 := ⟨wc_P_has, gd_in1 1 (by decide +kernel) (by decide +kernel), ⟨by decide, by decide⟩, by decide +kernel, by decide, Or.inr ⟨"CutPlanner", gd_in2 21 (by decide +kernel) (by decide +kernel)⟩⟩
theorem kk_V_23 : Cond.constant "CutPlanner$Levels" 23 (nI 1000000) ∈ gd_T := gd_in2 24 (by decide +kernel) (by decide +kernel)
theorem kf_V_24 : zd_F classes gd_T "CutPlanner$Levels" 24 1 3 := ⟨R_T, F_T, 6, rfl, wi_T, by decide, Or.inr ⟨"CutPlanner", gd_in1 44 (by decide +kernel) (by decide +kernel)⟩⟩
theorem kp_V_24 : zd_FP classes gd_T "CutPlanner$Levels" 24 1 3 := ⟨R_T, F_T, 6, ft_T, rfl, wi_T, by decide, Or.inr ⟨"CutPlanner", gd_in1 44 (by decide +kernel) (by decide +kernel)⟩, to_T, n_T, rfl, by decide +kernel⟩
theorem kf_V_30 : zd_F classes gd_T "CutPlanner$Levels" 30 1 1 := ⟨R_T, F_T, 6, rfl, wi_T, by decide, Or.inr ⟨"CutPlanner", gd_in1 38 (by decide +kernel) (by decide +kernel)⟩⟩
theorem kc_V_34 : zd_C gd_T "CutPlanner$Levels" 34 y_V_joined b_V_joined 5 (some .int) 2 := ⟨wc_V_joined, gd_in1 6 (by decide +kernel) (by decide +kernel), ⟨by decide, by decide⟩, by decide +kernel, by decide, Or.inl (gd_in2 25 (by decide +kernel) (by decide +kernel))⟩
theorem kc_V_38 : zd_C gd_T "CutPlanner$Levels" 38 y_V_lower b_V_lower 5 (some .boolean) 2 := ⟨wc_V_lower, gd_in1 6 (by decide +kernel) (by decide +kernel), ⟨by decide, by decide⟩, by decide +kernel, by decide, Or.inl (gd_in2 35 (by decide +kernel) (by decide +kernel))⟩
theorem ki_V_lower : Cond.instanceMethod y_V_lower ∈ gd_T := gd_in2 37 (by decide +kernel) (by decide +kernel)
theorem ke_V_lower : Cond.selects y_V_lower.cls y_V_lower y_V_lower ∈ gd_T := gd_sel (n := 2) 5 (by decide +kernel)
theorem kf_R_7 : zd_F classes gd_T "CutPlanner$Row" 7 2 0 := ⟨R_R, F_R, 2, rfl, wi_R, by decide, Or.inl (gd_in1 102 (by decide +kernel) (by decide +kernel))⟩
theorem kf_R_13 : zd_F classes gd_T "CutPlanner$Row" 13 2 1 := ⟨R_R, F_R, 2, rfl, wi_R, by decide, Or.inl (gd_in1 104 (by decide +kernel) (by decide +kernel))⟩
theorem kp_R_13 : zd_FP classes gd_T "CutPlanner$Row" 13 2 1 := ⟨R_R, F_R, 2, ft_R, rfl, wi_R, by decide, Or.inl (gd_in1 104 (by decide +kernel) (by decide +kernel)), to_R, n_R, rfl, by decide +kernel⟩
theorem kf_S_9 : zd_F classes gd_T "CutPlanner$Search" 9 3 1 := ⟨R_S, F_S, 6, rfl, wi_S, by decide, Or.inl (gd_in1 77 (by decide +kernel) (by decide +kernel))⟩
theorem kf_S_15 : zd_F classes gd_T "CutPlanner$Search" 15 3 2 := ⟨R_S, F_S, 6, rfl, wi_S, by decide, Or.inl (gd_in1 78 (by decide +kernel) (by decide +kernel))⟩
theorem kf_S_18 : zd_F classes gd_T "CutPlanner$Search" 18 3 3 := ⟨R_S, F_S, 6, rfl, wi_S, by decide, Or.inl (gd_in1 79 (by decide +kernel) (by decide +kernel))⟩
theorem kf_S_21 : zd_F classes gd_T "CutPlanner$Search" 21 3 4 := ⟨R_S, F_S, 6, rfl, wi_S, by decide, Or.inl (gd_in1 80 (by decide +kernel) (by decide +kernel))⟩
theorem kf_S_24 : zd_F classes gd_T "CutPlanner$Search" 24 3 0 := ⟨R_S, F_S, 6, rfl, wi_S, by decide, Or.inl (gd_in1 76 (by decide +kernel) (by decide +kernel))⟩
theorem kc_S_34 : zd_C gd_T "CutPlanner$Search" 34 y_S_forget b_S_forget 2 (none) 0 := ⟨wc_S_forget, gd_in1 3 (by decide +kernel) (by decide +kernel), ⟨by decide, by decide⟩, by decide +kernel, by decide, Or.inl (gd_in1 190 (by decide +kernel) (by decide +kernel))⟩
theorem ki_S_forget : Cond.instanceMethod y_S_forget ∈ gd_T := gd_in1 192 (by decide +kernel) (by decide +kernel)
theorem ke_S_forget : Cond.selects y_S_forget.cls y_S_forget y_S_forget ∈ gd_T := gd_sel (n := 6) 0 (by decide +kernel)
theorem kc_S_37 : zd_C gd_T "CutPlanner$Search" 37 y_S_settle b_S_settle 3 (none) 2 := ⟨wc_S_settle, gd_in1 3 (by decide +kernel) (by decide +kernel), ⟨by decide, by decide⟩, by decide +kernel, by decide, Or.inl (gd_in1 194 (by decide +kernel) (by decide +kernel))⟩
theorem ki_S_settle : Cond.instanceMethod y_S_settle ∈ gd_T := gd_in1 196 (by decide +kernel) (by decide +kernel)
theorem ke_S_settle : Cond.selects y_S_settle.cls y_S_settle y_S_settle ∈ gd_T := gd_sel (n := 6) 1 (by decide +kernel)
theorem kc_S_41 : zd_C gd_T "CutPlanner$Search" 41 y_S_lastSpent b_S_lastSpent 1 (some .int) 0 := ⟨wc_S_lastSpent, gd_in1 3 (by decide +kernel) (by decide +kernel), ⟨by decide, by decide⟩, by decide +kernel, by decide, Or.inl (gd_in1 198 (by decide +kernel) (by decide +kernel))⟩
theorem ki_S_lastSpent : Cond.instanceMethod y_S_lastSpent ∈ gd_T := gd_in1 200 (by decide +kernel) (by decide +kernel)
theorem ke_S_lastSpent : Cond.selects y_S_lastSpent.cls y_S_lastSpent y_S_lastSpent ∈ gd_T := gd_sel (n := 6) 2 (by decide +kernel)
theorem kf_S_45 : zd_F classes gd_T "CutPlanner$Search" 45 3 5 := ⟨R_S, F_S, 6, rfl, wi_S, by decide, Or.inl (gd_in1 81 (by decide +kernel) (by decide +kernel))⟩
theorem kp_S_45 : zd_FP classes gd_T "CutPlanner$Search" 45 3 5 := ⟨R_S, F_S, 6, ft_S, rfl, wi_S, by decide, Or.inl (gd_in1 81 (by decide +kernel) (by decide +kernel)), to_S, n_S, rfl, by decide +kernel⟩
theorem kf_S_49 : zd_F classes gd_T "CutPlanner$Search" 49 1 3 := ⟨R_T, F_T, 6, rfl, wi_T, by decide, Or.inr ⟨"CutPlanner", gd_in1 43 (by decide +kernel) (by decide +kernel)⟩⟩
theorem kp_S_49 : zd_FP classes gd_T "CutPlanner$Search" 49 1 3 := ⟨R_T, F_T, 6, ft_T, rfl, wi_T, by decide, Or.inr ⟨"CutPlanner", gd_in1 43 (by decide +kernel) (by decide +kernel)⟩, to_T, n_T, rfl, by decide +kernel⟩
theorem kf_S_54 : zd_F classes gd_T "CutPlanner$Search" 54 1 0 := ⟨R_T, F_T, 6, rfl, wi_T, by decide, Or.inr ⟨"CutPlanner", gd_in1 35 (by decide +kernel) (by decide +kernel)⟩⟩
theorem kc_S_57 : zd_C gd_T "CutPlanner$Search" 57 y_S_spread b_S_spread 6 (none) 3 := ⟨wc_S_spread, gd_in1 3 (by decide +kernel) (by decide +kernel), ⟨by decide, by decide⟩, by decide +kernel, by decide, Or.inl (gd_in1 202 (by decide +kernel) (by decide +kernel))⟩
theorem ki_S_spread : Cond.instanceMethod y_S_spread ∈ gd_T := gd_in1 204 (by decide +kernel) (by decide +kernel)
theorem ke_S_spread : Cond.selects y_S_spread.cls y_S_spread y_S_spread ∈ gd_T := gd_sel (n := 6) 3 (by decide +kernel)
theorem kc_S_61 : zd_C gd_T "CutPlanner$Search" 61 y_P_hasAll b_P_hasAll 2 (some .boolean) 2 := ⟨wc_P_hasAll, gd_in1 1 (by decide +kernel) (by decide +kernel), ⟨by decide, by decide⟩, by decide +kernel, by decide, Or.inr ⟨"CutPlanner", gd_in3 49 (by decide +kernel) (by decide +kernel)⟩⟩
theorem ks_P_hasAll : Cond.static y_P_hasAll ∈ gd_T := gd_in1 211 (by decide +kernel) (by decide +kernel)
theorem kc_S_65 : zd_C gd_T "CutPlanner$Search" 65 y_T_isMet b_T_isMet 2 (some .boolean) 1 := ⟨wc_T_isMet, gd_in1 2 (by decide +kernel) (by decide +kernel), ⟨by decide, by decide⟩, by decide +kernel, by decide, Or.inl (gd_in1 225 (by decide +kernel) (by decide +kernel))⟩
theorem kc_S_69 : zd_C gd_T "CutPlanner$Search" 69 y_S_leastOnward b_S_leastOnward 4 (some .int) 1 := ⟨wc_S_leastOnward, gd_in1 3 (by decide +kernel) (by decide +kernel), ⟨by decide, by decide⟩, by decide +kernel, by decide, Or.inl (gd_in1 233 (by decide +kernel) (by decide +kernel))⟩
theorem ki_S_leastOnward : Cond.instanceMethod y_S_leastOnward ∈ gd_T := gd_in1 235 (by decide +kernel) (by decide +kernel)
theorem ke_S_leastOnward : Cond.selects y_S_leastOnward.cls y_S_leastOnward y_S_leastOnward ∈ gd_T := gd_sel (n := 6) 4 (by decide +kernel)
theorem kc_S_73 : zd_C gd_T "CutPlanner$Search" 73 y_R_append b_R_append 2 (none) 1 := ⟨wc_R_append, gd_in1 5 (by decide +kernel) (by decide +kernel), ⟨by decide, by decide⟩, by decide +kernel, by decide, Or.inl (gd_in1 237 (by decide +kernel) (by decide +kernel))⟩
theorem kc_S_79 : zd_C gd_T "CutPlanner$Search" 79 y_T_after b_T_after 3 (some .int) 2 := ⟨wc_T_after, gd_in1 2 (by decide +kernel) (by decide +kernel), ⟨by decide, by decide⟩, by decide +kernel, by decide, Or.inl (gd_in1 213 (by decide +kernel) (by decide +kernel))⟩
theorem kc_S_83 : zd_C gd_T "CutPlanner$Search" 83 y_T_allows b_T_allows 3 (some .boolean) 2 := ⟨wc_T_allows, gd_in1 2 (by decide +kernel) (by decide +kernel), ⟨by decide, by decide⟩, by decide +kernel, by decide, Or.inl (gd_in1 206 (by decide +kernel) (by decide +kernel))⟩
theorem kf_T_9 : zd_F classes gd_T "CutPlanner$Task" 9 1 0 := ⟨R_T, F_T, 6, rfl, wi_T, by decide, Or.inl (gd_in1 33 (by decide +kernel) (by decide +kernel))⟩
theorem kf_T_17 : zd_F classes gd_T "CutPlanner$Task" 17 1 1 := ⟨R_T, F_T, 6, rfl, wi_T, by decide, Or.inl (gd_in1 37 (by decide +kernel) (by decide +kernel))⟩
theorem kf_T_20 : zd_F classes gd_T "CutPlanner$Task" 20 1 2 := ⟨R_T, F_T, 6, rfl, wi_T, by decide, Or.inl (gd_in1 41 (by decide +kernel) (by decide +kernel))⟩
theorem kp_T_20 : zd_FP classes gd_T "CutPlanner$Task" 20 1 2 := ⟨R_T, F_T, 6, ft_T, rfl, wi_T, by decide, Or.inl (gd_in1 41 (by decide +kernel) (by decide +kernel)), to_T, n_T, rfl, by decide +kernel⟩
theorem kf_T_24 : zd_F classes gd_T "CutPlanner$Task" 24 1 4 := ⟨R_T, F_T, 6, rfl, wi_T, by decide, Or.inl (gd_in1 48 (by decide +kernel) (by decide +kernel))⟩
theorem kp_T_24 : zd_FP classes gd_T "CutPlanner$Task" 24 1 4 := ⟨R_T, F_T, 6, ft_T, rfl, wi_T, by decide, Or.inl (gd_in1 48 (by decide +kernel) (by decide +kernel)), to_T, n_T, rfl, by decide +kernel⟩
theorem kf_T_27 : zd_F classes gd_T "CutPlanner$Task" 27 1 5 := ⟨R_T, F_T, 6, rfl, wi_T, by decide, Or.inl (gd_in1 50 (by decide +kernel) (by decide +kernel))⟩
theorem kp_T_27 : zd_FP classes gd_T "CutPlanner$Task" 27 1 5 := ⟨R_T, F_T, 6, ft_T, rfl, wi_T, by decide, Or.inl (gd_in1 50 (by decide +kernel) (by decide +kernel)), to_T, n_T, rfl, by decide +kernel⟩
theorem kf_T_30 : zd_F classes gd_T "CutPlanner$Task" 30 1 3 := ⟨R_T, F_T, 6, rfl, wi_T, by decide, Or.inl (gd_in1 45 (by decide +kernel) (by decide +kernel))⟩
theorem kp_T_30 : zd_FP classes gd_T "CutPlanner$Task" 30 1 3 := ⟨R_T, F_T, 6, ft_T, rfl, wi_T, by decide, Or.inl (gd_in1 45 (by decide +kernel) (by decide +kernel)), to_T, n_T, rfl, by decide +kernel⟩
theorem kc_T_33 : zd_C gd_T "CutPlanner$Task" 33 y_P_hasAll b_P_hasAll 2 (some .boolean) 2 := ⟨wc_P_hasAll, gd_in1 1 (by decide +kernel) (by decide +kernel), ⟨by decide, by decide⟩, by decide +kernel, by decide, Or.inr ⟨"CutPlanner", gd_in1 210 (by decide +kernel) (by decide +kernel)⟩⟩
theorem kc_T_37 : zd_C gd_T "CutPlanner$Task" 37 y_P_has b_P_has 2 (some .boolean) 2 := ⟨wc_P_has, gd_in1 1 (by decide +kernel) (by decide +kernel), ⟨by decide, by decide⟩, by decide +kernel, by decide, Or.inr ⟨"CutPlanner", gd_in3 68 (by decide +kernel) (by decide +kernel)⟩⟩
theorem kc_L_7 : zd_C gd_T "CutPlannerLaw" 7 y_P_fact b_P_fact 4 (some .int) 2 := ⟨wc_P_fact, gd_in1 1 (by decide +kernel) (by decide +kernel), ⟨by decide, by decide⟩, by decide +kernel, by decide, Or.inl (gd_in2 111 (by decide +kernel) (by decide +kernel))⟩
theorem ki_P_fact : Cond.instanceMethod y_P_fact ∈ gd_T := gd_in2 112 (by decide +kernel) (by decide +kernel)
theorem ke_P_fact : Cond.selects y_P_fact.cls y_P_fact y_P_fact ∈ gd_T := gd_in2 113 (by decide +kernel) (by decide +kernel)
theorem kc_L_15 : zd_C gd_T "CutPlannerLaw" 15 y_P_action b_P_action 3 (some .int) 1 := ⟨wc_P_action, gd_in1 1 (by decide +kernel) (by decide +kernel), ⟨by decide, by decide⟩, by decide +kernel, by decide, Or.inl (gd_in2 195 (by decide +kernel) (by decide +kernel))⟩
theorem ki_P_action : Cond.instanceMethod y_P_action ∈ gd_T := gd_in2 196 (by decide +kernel) (by decide +kernel)
theorem ke_P_action : Cond.selects y_P_action.cls y_P_action y_P_action ∈ gd_T := gd_in2 197 (by decide +kernel) (by decide +kernel)
theorem kc_L_21 : zd_C gd_T "CutPlannerLaw" 21 y_P_link b_P_link 4 (none) 3 := ⟨wc_P_link, gd_in1 1 (by decide +kernel) (by decide +kernel), ⟨by decide, by decide⟩, by decide +kernel, by decide, Or.inl (gd_in2 224 (by decide +kernel) (by decide +kernel))⟩
theorem ki_P_link : Cond.instanceMethod y_P_link ∈ gd_T := gd_in2 225 (by decide +kernel) (by decide +kernel)
theorem ke_P_link : Cond.selects y_P_link.cls y_P_link y_P_link ∈ gd_T := gd_in2 226 (by decide +kernel) (by decide +kernel)
theorem kc_L_27 : zd_C gd_T "CutPlannerLaw" 27 y_P_holds b_P_holds 2 (some .boolean) 1 := ⟨wc_P_holds, gd_in1 1 (by decide +kernel) (by decide +kernel), ⟨by decide, by decide⟩, by decide +kernel, by decide, Or.inl (gd_in3 19 (by decide +kernel) (by decide +kernel))⟩
theorem ki_P_holds : Cond.instanceMethod y_P_holds ∈ gd_T := gd_in3 20 (by decide +kernel) (by decide +kernel)
theorem ke_P_holds : Cond.selects y_P_holds.cls y_P_holds y_P_holds ∈ gd_T := gd_in3 21 (by decide +kernel) (by decide +kernel)
theorem kc_L_31 : zd_C gd_T "CutPlannerLaw" 31 y_P_applicable b_P_applicable 2 (some .boolean) 1 := ⟨wc_P_applicable, gd_in1 1 (by decide +kernel) (by decide +kernel), ⟨by decide, by decide⟩, by decide +kernel, by decide, Or.inl (gd_in3 26 (by decide +kernel) (by decide +kernel))⟩
theorem ki_P_applicable : Cond.instanceMethod y_P_applicable ∈ gd_T := gd_in3 27 (by decide +kernel) (by decide +kernel)
theorem ke_P_applicable : Cond.selects y_P_applicable.cls y_P_applicable y_P_applicable ∈ gd_T := gd_in3 28 (by decide +kernel) (by decide +kernel)
theorem kc_L_34 : zd_C gd_T "CutPlannerLaw" 34 y_P_apply b_P_apply 2 (some .boolean) 1 := ⟨wc_P_apply, gd_in1 1 (by decide +kernel) (by decide +kernel), ⟨by decide, by decide⟩, by decide +kernel, by decide, Or.inl (gd_in3 33 (by decide +kernel) (by decide +kernel))⟩
theorem ki_P_apply : Cond.instanceMethod y_P_apply ∈ gd_T := gd_in3 34 (by decide +kernel) (by decide +kernel)
theorem ke_P_apply : Cond.selects y_P_apply.cls y_P_apply y_P_apply ∈ gd_T := gd_in3 35 (by decide +kernel) (by decide +kernel)
theorem kc_L_37 : zd_C gd_T "CutPlannerLaw" 37 y_P_together b_P_together 3 (some .boolean) 2 := ⟨wc_P_together, gd_in1 1 (by decide +kernel) (by decide +kernel), ⟨by decide, by decide⟩, by decide +kernel, by decide, Or.inl (gd_in3 41 (by decide +kernel) (by decide +kernel))⟩
theorem ki_P_together : Cond.instanceMethod y_P_together ∈ gd_T := gd_in3 42 (by decide +kernel) (by decide +kernel)
theorem ke_P_together : Cond.selects y_P_together.cls y_P_together y_P_together ∈ gd_T := gd_in3 43 (by decide +kernel) (by decide +kernel)
theorem kc_L_41 : zd_C gd_T "CutPlannerLaw" 41 y_P_level b_P_level 3 (some .int) 2 := ⟨wc_P_level, gd_in1 1 (by decide +kernel) (by decide +kernel), ⟨by decide, by decide⟩, by decide +kernel, by decide, Or.inl (gd_in3 53 (by decide +kernel) (by decide +kernel))⟩
theorem ki_P_level : Cond.instanceMethod y_P_level ∈ gd_T := gd_in3 54 (by decide +kernel) (by decide +kernel)
theorem ke_P_level : Cond.selects y_P_level.cls y_P_level y_P_level ∈ gd_T := gd_in3 55 (by decide +kernel) (by decide +kernel)
theorem kc_L_45 : zd_C gd_T "CutPlannerLaw" 45 y_P_landmark b_P_landmark 2 (some .boolean) 1 := ⟨wc_P_landmark, gd_in1 1 (by decide +kernel) (by decide +kernel), ⟨by decide, by decide⟩, by decide +kernel, by decide, Or.inl (gd_in3 60 (by decide +kernel) (by decide +kernel))⟩
theorem ki_P_landmark : Cond.instanceMethod y_P_landmark ∈ gd_T := gd_in3 61 (by decide +kernel) (by decide +kernel)
theorem ke_P_landmark : Cond.selects y_P_landmark.cls y_P_landmark y_P_landmark ∈ gd_T := gd_in3 62 (by decide +kernel) (by decide +kernel)
theorem kc_L_48 : zd_C gd_T "CutPlannerLaw" 48 y_P_draft b_P_draft 2 (some .int) 1 := ⟨wc_P_draft, gd_in1 1 (by decide +kernel) (by decide +kernel), ⟨by decide, by decide⟩, by decide +kernel, by decide, Or.inl (gd_in3 72 (by decide +kernel) (by decide +kernel))⟩
theorem ki_P_draft : Cond.instanceMethod y_P_draft ∈ gd_T := gd_in3 73 (by decide +kernel) (by decide +kernel)
theorem ke_P_draft : Cond.selects y_P_draft.cls y_P_draft y_P_draft ∈ gd_T := gd_in3 74 (by decide +kernel) (by decide +kernel)
end
