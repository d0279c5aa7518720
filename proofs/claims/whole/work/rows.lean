section
-- ===== PART A: goes FIRST, ahead of the names: the tables' words, and 'selects' of the private methods out of them =====
/-- a private method of a class that the tables say can be made, by its rows of tables_1 -/
def lw_okq (q : MethodName × Nat) : Prop := (q.1.cls ≠ "java/lang/invoke/MethodHandle" ∧ q.1.cls ≠ "java/lang/invoke/VarHandle") ∧ Cond.instantiable q.1.cls q.2 ∈ tables_1 ∧ Cond.privateMethod q.1 ∈ tables_1 ∧ Cond.instanceMethod q.1 ∈ tables_1
theorem lw_p0 : lw_okq (⟨"CutPlanner$Search", "forget", "()V"⟩, 6) := ⟨⟨by decide +kernel, by decide +kernel⟩, List.mem_of_getElem? (i := 68) (by decide +kernel), List.mem_of_getElem? (i := 191) (by decide +kernel), List.mem_of_getElem? (i := 192) (by decide +kernel)⟩
theorem lw_p1 : lw_okq (⟨"CutPlanner$Search", "settle", "(II)V"⟩, 6) := ⟨⟨by decide +kernel, by decide +kernel⟩, List.mem_of_getElem? (i := 68) (by decide +kernel), List.mem_of_getElem? (i := 195) (by decide +kernel), List.mem_of_getElem? (i := 196) (by decide +kernel)⟩
theorem lw_p2 : lw_okq (⟨"CutPlanner$Search", "lastSpent", "()I"⟩, 6) := ⟨⟨by decide +kernel, by decide +kernel⟩, List.mem_of_getElem? (i := 68) (by decide +kernel), List.mem_of_getElem? (i := 199) (by decide +kernel), List.mem_of_getElem? (i := 200) (by decide +kernel)⟩
theorem lw_p3 : lw_okq (⟨"CutPlanner$Search", "spread", "(III)V"⟩, 6) := ⟨⟨by decide +kernel, by decide +kernel⟩, List.mem_of_getElem? (i := 68) (by decide +kernel), List.mem_of_getElem? (i := 203) (by decide +kernel), List.mem_of_getElem? (i := 204) (by decide +kernel)⟩
theorem lw_p4 : lw_okq (⟨"CutPlanner$Search", "leastOnward", "(I)I"⟩, 6) := ⟨⟨by decide +kernel, by decide +kernel⟩, List.mem_of_getElem? (i := 68) (by decide +kernel), List.mem_of_getElem? (i := 234) (by decide +kernel), List.mem_of_getElem? (i := 235) (by decide +kernel)⟩
theorem lw_p5 : lw_okq (⟨"CutPlanner$Levels", "lower", "(II)Z"⟩, 2) := ⟨⟨by decide +kernel, by decide +kernel⟩, List.mem_of_getElem? (i := 112) (by decide +kernel), List.mem_of_getElem? (i := 276) (by decide +kernel), List.mem_of_getElem? (i := 277) (by decide +kernel)⟩
theorem lw_p6 : lw_okq (⟨"CutPlanner$Cuts", "goalHeight", "(I)I"⟩, 7) := ⟨⟨by decide +kernel, by decide +kernel⟩, List.mem_of_getElem? (i := 126) (by decide +kernel), List.mem_of_getElem? (i := 296) (by decide +kernel), List.mem_of_getElem? (i := 297) (by decide +kernel)⟩
theorem lw_p7 : lw_okq (⟨"CutPlanner$Cuts", "nextCut", "(I)I"⟩, 7) := ⟨⟨by decide +kernel, by decide +kernel⟩, List.mem_of_getElem? (i := 126) (by decide +kernel), List.mem_of_getElem? (i := 303) (by decide +kernel), List.mem_of_getElem? (i := 304) (by decide +kernel)⟩
theorem lw_p8 : lw_okq (⟨"CutPlanner$Cuts", "zoneBefore", "(I)I"⟩, 7) := ⟨⟨by decide +kernel, by decide +kernel⟩, List.mem_of_getElem? (i := 126) (by decide +kernel), List.mem_of_getElem? (i := 311) (by decide +kernel), List.mem_of_getElem? (i := 312) (by decide +kernel)⟩
theorem lw_p9 : lw_okq (⟨"CutPlanner$Cuts", "restBehind", "(II)I"⟩, 7) := ⟨⟨by decide +kernel, by decide +kernel⟩, List.mem_of_getElem? (i := 126) (by decide +kernel), List.mem_of_getElem? (i := 315) (by decide +kernel), List.mem_of_getElem? (i := 316) (by decide +kernel)⟩
theorem lw_p10 : lw_okq (⟨"CutPlanner$Cuts", "isBasedIn", "(II)Z"⟩, 7) := ⟨⟨by decide +kernel, by decide +kernel⟩, List.mem_of_getElem? (i := 126) (by decide +kernel), List.mem_of_getElem? (i := 319) (by decide +kernel), List.mem_of_getElem? (i := 320) (by decide +kernel)⟩
theorem lw_p11 : lw_okq (⟨"CutPlanner$Cuts", "pay", "(I)I"⟩, 7) := ⟨⟨by decide +kernel, by decide +kernel⟩, List.mem_of_getElem? (i := 126) (by decide +kernel), List.mem_of_getElem? (i := 324) (by decide +kernel), List.mem_of_getElem? (i := 325) (by decide +kernel)⟩
theorem lw_p12 : lw_okq (⟨"java/lang/Throwable", "fillInStackTrace", "(I)Ljava/lang/Throwable;"⟩, 6) := ⟨⟨by decide +kernel, by decide +kernel⟩, List.mem_of_getElem? (i := 394) (by decide +kernel), List.mem_of_getElem? (i := 392) (by decide +kernel), List.mem_of_getElem? (i := 393) (by decide +kernel)⟩
theorem lw_p13 : lw_okq (⟨"CutPlanner", "startAnew", "()V"⟩, 7) := ⟨⟨by decide +kernel, by decide +kernel⟩, List.mem_of_getElem? (i := 18) (by decide +kernel), List.mem_of_getElem? (i := 428) (by decide +kernel), List.mem_of_getElem? (i := 429) (by decide +kernel)⟩
theorem lw_p14 : lw_okq (⟨"CutPlanner", "refuseUnknownAction", "(I)V"⟩, 7) := ⟨⟨by decide +kernel, by decide +kernel⟩, List.mem_of_getElem? (i := 18) (by decide +kernel), List.mem_of_getElem? (i := 469) (by decide +kernel), List.mem_of_getElem? (i := 470) (by decide +kernel)⟩
theorem lw_p15 : lw_okq (⟨"CutPlanner", "refuseUnknownFact", "(I)V"⟩, 7) := ⟨⟨by decide +kernel, by decide +kernel⟩, List.mem_of_getElem? (i := 18) (by decide +kernel), List.mem_of_getElem? (i := 489) (by decide +kernel), List.mem_of_getElem? (i := 490) (by decide +kernel)⟩
def lw_privs_1 : List (MethodName × Nat) := [(⟨"CutPlanner$Search", "forget", "()V"⟩, 6), (⟨"CutPlanner$Search", "settle", "(II)V"⟩, 6), (⟨"CutPlanner$Search", "lastSpent", "()I"⟩, 6), (⟨"CutPlanner$Search", "spread", "(III)V"⟩, 6), (⟨"CutPlanner$Search", "leastOnward", "(I)I"⟩, 6), (⟨"CutPlanner$Levels", "lower", "(II)Z"⟩, 2), (⟨"CutPlanner$Cuts", "goalHeight", "(I)I"⟩, 7), (⟨"CutPlanner$Cuts", "nextCut", "(I)I"⟩, 7), (⟨"CutPlanner$Cuts", "zoneBefore", "(I)I"⟩, 7), (⟨"CutPlanner$Cuts", "restBehind", "(II)I"⟩, 7), (⟨"CutPlanner$Cuts", "isBasedIn", "(II)Z"⟩, 7), (⟨"CutPlanner$Cuts", "pay", "(I)I"⟩, 7), (⟨"java/lang/Throwable", "fillInStackTrace", "(I)Ljava/lang/Throwable;"⟩, 6), (⟨"CutPlanner", "startAnew", "()V"⟩, 7), (⟨"CutPlanner", "refuseUnknownAction", "(I)V"⟩, 7), (⟨"CutPlanner", "refuseUnknownFact", "(I)V"⟩, 7)]
theorem lw_r1 : ∀ q ∈ lw_privs_1, lw_okq q := List.forall_mem_cons.mpr ⟨lw_p0, List.forall_mem_cons.mpr ⟨lw_p1, List.forall_mem_cons.mpr ⟨lw_p2, List.forall_mem_cons.mpr ⟨lw_p3, List.forall_mem_cons.mpr ⟨lw_p4, List.forall_mem_cons.mpr ⟨lw_p5, List.forall_mem_cons.mpr ⟨lw_p6, List.forall_mem_cons.mpr ⟨lw_p7, List.forall_mem_cons.mpr ⟨lw_p8, List.forall_mem_cons.mpr ⟨lw_p9, List.forall_mem_cons.mpr ⟨lw_p10, List.forall_mem_cons.mpr ⟨lw_p11, List.forall_mem_cons.mpr ⟨lw_p12, List.forall_mem_cons.mpr ⟨lw_p13, List.forall_mem_cons.mpr ⟨lw_p14, List.forall_mem_cons.mpr ⟨lw_p15, fun _ h => absurd h List.not_mem_nil⟩⟩⟩⟩⟩⟩⟩⟩⟩⟩⟩⟩⟩⟩⟩⟩
theorem lw_p16 : lw_okq (⟨"CutPlannerModel", "changed", "()V"⟩, 21) := ⟨⟨by decide +kernel, by decide +kernel⟩, List.mem_of_getElem? (i := 559) (by decide +kernel), List.mem_of_getElem? (i := 638) (by decide +kernel), List.mem_of_getElem? (i := 639) (by decide +kernel)⟩
theorem lw_p17 : lw_okq (⟨"CutPlannerModel", "noAction", "(I)Z"⟩, 21) := ⟨⟨by decide +kernel, by decide +kernel⟩, List.mem_of_getElem? (i := 559) (by decide +kernel), List.mem_of_getElem? (i := 650) (by decide +kernel), List.mem_of_getElem? (i := 651) (by decide +kernel)⟩
theorem lw_p18 : lw_okq (⟨"CutPlannerModel", "noFact", "(I)Z"⟩, 21) := ⟨⟨by decide +kernel, by decide +kernel⟩, List.mem_of_getElem? (i := 559) (by decide +kernel), List.mem_of_getElem? (i := 654) (by decide +kernel), List.mem_of_getElem? (i := 655) (by decide +kernel)⟩
theorem lw_p19 : lw_okq (⟨"CutPlannerModel", "can", "(II)Z"⟩, 21) := ⟨⟨by decide +kernel, by decide +kernel⟩, List.mem_of_getElem? (i := 559) (by decide +kernel), List.mem_of_getElem? (i := 670) (by decide +kernel), List.mem_of_getElem? (i := 671) (by decide +kernel)⟩
theorem lw_p20 : lw_okq (⟨"CutPlannerModel", "after", "(II)I"⟩, 21) := ⟨⟨by decide +kernel, by decide +kernel⟩, List.mem_of_getElem? (i := 559) (by decide +kernel), List.mem_of_getElem? (i := 678) (by decide +kernel), List.mem_of_getElem? (i := 679) (by decide +kernel)⟩
theorem lw_p21 : lw_okq (⟨"CutPlannerModel", "isMet", "(I)Z"⟩, 21) := ⟨⟨by decide +kernel, by decide +kernel⟩, List.mem_of_getElem? (i := 559) (by decide +kernel), List.mem_of_getElem? (i := 682) (by decide +kernel), List.mem_of_getElem? (i := 683) (by decide +kernel)⟩
theorem lw_p22 : lw_okq (⟨"CutPlannerModel", "findCosts", "()V"⟩, 21) := ⟨⟨by decide +kernel, by decide +kernel⟩, List.mem_of_getElem? (i := 559) (by decide +kernel), List.mem_of_getElem? (i := 690) (by decide +kernel), List.mem_of_getElem? (i := 691) (by decide +kernel)⟩
theorem lw_p23 : lw_okq (⟨"CutPlannerModel", "bestAction", "(I)I"⟩, 21) := ⟨⟨by decide +kernel, by decide +kernel⟩, List.mem_of_getElem? (i := 559) (by decide +kernel), List.mem_of_getElem? (i := 695) (by decide +kernel), List.mem_of_getElem? (i := 696) (by decide +kernel)⟩
theorem lw_p24 : lw_okq (⟨"CutPlannerModel", "comeTo", "()V"⟩, 21) := ⟨⟨by decide +kernel, by decide +kernel⟩, List.mem_of_getElem? (i := 559) (by decide +kernel), List.mem_of_getElem? (i := 711) (by decide +kernel), List.mem_of_getElem? (i := 712) (by decide +kernel)⟩
theorem lw_p25 : lw_okq (⟨"CutPlannerModel", "ownRates", "()V"⟩, 21) := ⟨⟨by decide +kernel, by decide +kernel⟩, List.mem_of_getElem? (i := 559) (by decide +kernel), List.mem_of_getElem? (i := 723) (by decide +kernel), List.mem_of_getElem? (i := 724) (by decide +kernel)⟩
theorem lw_p26 : lw_okq (⟨"CutPlannerModel", "findLevels", "(ZI)V"⟩, 21) := ⟨⟨by decide +kernel, by decide +kernel⟩, List.mem_of_getElem? (i := 559) (by decide +kernel), List.mem_of_getElem? (i := 727) (by decide +kernel), List.mem_of_getElem? (i := 728) (by decide +kernel)⟩
theorem lw_p27 : lw_okq (⟨"CutPlannerModel", "over", "(IZ)I"⟩, 21) := ⟨⟨by decide +kernel, by decide +kernel⟩, List.mem_of_getElem? (i := 559) (by decide +kernel), List.mem_of_getElem? (i := 731) (by decide +kernel), List.mem_of_getElem? (i := 732) (by decide +kernel)⟩
theorem lw_p28 : lw_okq (⟨"CutPlannerModel", "cutAll", "()V"⟩, 21) := ⟨⟨by decide +kernel, by decide +kernel⟩, List.mem_of_getElem? (i := 559) (by decide +kernel), List.mem_of_getElem? (i := 746) (by decide +kernel), List.mem_of_getElem? (i := 747) (by decide +kernel)⟩
theorem lw_p29 : lw_okq (⟨"CutPlannerModel", "zone", "()I"⟩, 21) := ⟨⟨by decide +kernel, by decide +kernel⟩, List.mem_of_getElem? (i := 559) (by decide +kernel), List.mem_of_getElem? (i := 750) (by decide +kernel), List.mem_of_getElem? (i := 751) (by decide +kernel)⟩
theorem lw_p30 : lw_okq (⟨"CutPlannerModel", "base", "(I)I"⟩, 21) := ⟨⟨by decide +kernel, by decide +kernel⟩, List.mem_of_getElem? (i := 559) (by decide +kernel), List.mem_of_getElem? (i := 754) (by decide +kernel), List.mem_of_getElem? (i := 755) (by decide +kernel)⟩
theorem lw_p31 : lw_okq (⟨"CutPlannerModel", "rest", "(I)I"⟩, 21) := ⟨⟨by decide +kernel, by decide +kernel⟩, List.mem_of_getElem? (i := 559) (by decide +kernel), List.mem_of_getElem? (i := 758) (by decide +kernel), List.mem_of_getElem? (i := 759) (by decide +kernel)⟩
def lw_privs_2 : List (MethodName × Nat) := [(⟨"CutPlannerModel", "changed", "()V"⟩, 21), (⟨"CutPlannerModel", "noAction", "(I)Z"⟩, 21), (⟨"CutPlannerModel", "noFact", "(I)Z"⟩, 21), (⟨"CutPlannerModel", "can", "(II)Z"⟩, 21), (⟨"CutPlannerModel", "after", "(II)I"⟩, 21), (⟨"CutPlannerModel", "isMet", "(I)Z"⟩, 21), (⟨"CutPlannerModel", "findCosts", "()V"⟩, 21), (⟨"CutPlannerModel", "bestAction", "(I)I"⟩, 21), (⟨"CutPlannerModel", "comeTo", "()V"⟩, 21), (⟨"CutPlannerModel", "ownRates", "()V"⟩, 21), (⟨"CutPlannerModel", "findLevels", "(ZI)V"⟩, 21), (⟨"CutPlannerModel", "over", "(IZ)I"⟩, 21), (⟨"CutPlannerModel", "cutAll", "()V"⟩, 21), (⟨"CutPlannerModel", "zone", "()I"⟩, 21), (⟨"CutPlannerModel", "base", "(I)I"⟩, 21), (⟨"CutPlannerModel", "rest", "(I)I"⟩, 21)]
theorem lw_r2 : ∀ q ∈ lw_privs_2, lw_okq q := List.forall_mem_cons.mpr ⟨lw_p16, List.forall_mem_cons.mpr ⟨lw_p17, List.forall_mem_cons.mpr ⟨lw_p18, List.forall_mem_cons.mpr ⟨lw_p19, List.forall_mem_cons.mpr ⟨lw_p20, List.forall_mem_cons.mpr ⟨lw_p21, List.forall_mem_cons.mpr ⟨lw_p22, List.forall_mem_cons.mpr ⟨lw_p23, List.forall_mem_cons.mpr ⟨lw_p24, List.forall_mem_cons.mpr ⟨lw_p25, List.forall_mem_cons.mpr ⟨lw_p26, List.forall_mem_cons.mpr ⟨lw_p27, List.forall_mem_cons.mpr ⟨lw_p28, List.forall_mem_cons.mpr ⟨lw_p29, List.forall_mem_cons.mpr ⟨lw_p30, List.forall_mem_cons.mpr ⟨lw_p31, fun _ h => absurd h List.not_mem_nil⟩⟩⟩⟩⟩⟩⟩⟩⟩⟩⟩⟩⟩⟩⟩⟩
theorem lw_p32 : lw_okq (⟨"CutPlannerModel", "actionsAcross", "(II)I"⟩, 21) := ⟨⟨by decide +kernel, by decide +kernel⟩, List.mem_of_getElem? (i := 559) (by decide +kernel), List.mem_of_getElem? (i := 762) (by decide +kernel), List.mem_of_getElem? (i := 763) (by decide +kernel)⟩
theorem lw_p33 : lw_okq (⟨"CutPlannerModel", "least", "(I)I"⟩, 21) := ⟨⟨by decide +kernel, by decide +kernel⟩, List.mem_of_getElem? (i := 559) (by decide +kernel), List.mem_of_getElem? (i := 766) (by decide +kernel), List.mem_of_getElem? (i := 767) (by decide +kernel)⟩
def lw_privs_3 : List (MethodName × Nat) := [(⟨"CutPlannerModel", "actionsAcross", "(II)I"⟩, 21), (⟨"CutPlannerModel", "least", "(I)I"⟩, 21)]
theorem lw_r3 : ∀ q ∈ lw_privs_3, lw_okq q := List.forall_mem_cons.mpr ⟨lw_p32, List.forall_mem_cons.mpr ⟨lw_p33, fun _ h => absurd h List.not_mem_nil⟩⟩
def lw_privs : List (MethodName × Nat) := lw_privs_1 ++ (lw_privs_2 ++ (lw_privs_3))
def lw_tbl : List Cond := k2_sels lw_privs ++ tables_1
theorem lw_privs_ok : ∀ q ∈ lw_privs, lw_okq q := by
  show ∀ q ∈ lw_privs_1 ++ (lw_privs_2 ++ (lw_privs_3)), lw_okq q
  exact List.forall_mem_append.mpr ⟨lw_r1, List.forall_mem_append.mpr ⟨lw_r2, lw_r3⟩⟩
-- ===== end of PART A; then your names; then what follows =====
end
section
/-! A walk's judgement with its world, its locals and its stack as lists: Z ws L pc st. The machine's own things stand in zd_E. -/
/-- the addresses of a world -/
def zd_A (ws : va_W) : Nat → Prop := fun q => ∃ (k : Nat) (e : va_E), ws[k]? = some (q, e)
/-- the locals by their places: those that are named hold words of one slot -/
def zd_L (ls : Array Slot) (nL : Nat) (L : List (Option Value)) : Prop := ls.size = nL ∧ lv_wf ls ∧ ∀ (i : Nat) (v : Value), L[i]? = some (some v) → v.category = 1 ∧ ls[i]? = some (.val v)
def zd_pairs (L : List (Option Value)) : List (Nat × Value) := L.zipIdx.filterMap (fun q => q.1.map (fun v => (q.2, v)))
theorem zd_pairs_mem {L : List (Option Value)} {i : Nat} {v : Value} : (i, v) ∈ zd_pairs L ↔ L[i]? = some (some v) := by
  unfold zd_pairs
  rw [List.mem_filterMap]
  constructor
  · rintro ⟨⟨o, j⟩, hm, hq⟩
    rw [List.mem_zipIdx_iff_getElem?] at hm
    cases o with
    | none => simp at hq
    | some w => simp at hq; obtain ⟨rfl, rfl⟩ := hq; exact hm
  · intro h
    exact ⟨(some v, i), List.mem_zipIdx_iff_getElem?.mpr h, rfl⟩
theorem zd_L.has {ls : Array Slot} {nL : Nat} {L : List (Option Value)} (h : zd_L ls nL L) : lv_has ls nL (zd_pairs L) := ⟨h.1, h.2.1, fun q hq => (h.2.2 q.1 q.2 (zd_pairs_mem.mp hq)).2⟩
theorem zd_L.at {ls : Array Slot} {nL : Nat} {L : List (Option Value)} (h : zd_L ls nL L) {i : Nat} {v : Value} (hi : L[i]? = some (some v)) : ls[i]? = some (.val v) := (h.2.2 i v hi).2
theorem zd_L.put {ls : Array Slot} {nL : Nat} {L : List (Option Value)} {i : Nat} {v : Value} (h : zd_L ls nL L) (hc : v.category = 1) {ls' : Array Slot}
    (h' : lv_has ls' nL ((i, v) :: (zd_pairs L).filter (fun q => !(q.1 == i) && !(q.1 + 1 == i && q.2.category == 2)))) : zd_L ls' nL (L.set i (some v)) := by
  refine ⟨h'.1, h'.2.1, fun j w hj => ?_⟩
  rw [List.getElem?_set] at hj
  by_cases hij : i = j
  · subst hij
    rw [if_pos rfl] at hj
    by_cases hl : i < L.length
    · rw [if_pos hl] at hj
      have hw : v = w := by simpa using hj
      subst hw
      exact ⟨hc, h'.2.2 (i, v) List.mem_cons_self⟩
    · rw [if_neg hl] at hj; cases hj
  · rw [if_neg hij] at hj
    obtain ⟨c1, -⟩ := h.2.2 j w hj
    refine ⟨c1, h'.2.2 (j, w) (List.mem_cons_of_mem _ (List.mem_filter.mpr ⟨zd_pairs_mem.mpr hj, ?_⟩))⟩
    have : ¬ j = i := fun e => hij e.symm
    simp [this, c1]
/-- fewer locals -/
def zd_le : List (Option Value) → List (Option Value) → Prop
  | [], _ => True
  | none :: r, _ :: t => zd_le r t
  | none :: r, [] => zd_le r []
  | some v :: r, some w :: t => v = w ∧ zd_le r t
  | some _ :: _, none :: _ => False
  | some _ :: _, [] => False
theorem zd_le_get : ∀ {a b : List (Option Value)}, zd_le a b → ∀ (i : Nat) (v : Value), a[i]? = some (some v) → b[i]? = some (some v)
  | [], _, _, i, v, h => by simp at h
  | none :: r, w :: t, hl, i, v, h => by
    cases i with
    | zero => simp at h
    | succ i => simp at h ⊢; exact zd_le_get (a := r) (b := t) hl i v h
  | none :: r, [], hl, i, v, h => by
    cases i with
    | zero => simp at h
    | succ i =>
      simp at h
      have := zd_le_get (a := r) (b := []) hl i v h
      simp at this
  | some v' :: r, some w :: t, hl, i, v, h => by
    obtain ⟨rfl, hl⟩ := hl
    cases i with
    | zero => simpa using h
    | succ i => simp at h ⊢; exact zd_le_get (a := r) (b := t) hl i v h
  | some _ :: _, none :: _, hl, _, _, _ => hl.elim
  | some _ :: _, [], hl, _, _, _ => hl.elim
theorem zd_L.less {ls : Array Slot} {nL : Nat} {L L' : List (Option Value)} (h : zd_L ls nL L) (hl : zd_le L' L) : zd_L ls nL L' := ⟨h.1, h.2.1, fun i v hi => h.2.2 i v (zd_le_get hl i v hi)⟩
/-- a method's end: its answer and the world behind it -/
def zd_Q (D : va_G) (cl : List vw_C) (tys : List (ClassId × FieldType)) (A : Nat → Prop) (post : Option Value → va_W → Prop) : Array Value → State → Outcome → State → Prop := fun _ st oc t =>
  (∃ (v : Option Value) (ws : va_W), oc = .returned v ∧ post v ws ∧ va_P D cl ws t.heap ∧ va_D A ws ∧ va_K D cl tys t) ∧ va_F A st t
/-- a link to a private member of a nest mate -/
def zd_nest : Cond → Bool
  | .fieldLinkNest .. => true
  | .methodLinkNest .. => true
  | _ => false
def zd_ok (w : Cond) : Bool := goodWord w || zd_nest w
/-- the links to nest mates among some words hold -/
def zd_N (Ts : List Cond) (U : State) : Prop := ∀ w ∈ Ts, zd_nest w = true → va_Nw w U
theorem zd_N.warm {Ts : List Cond} {s U : State} (hW : s.WarmedH U.vm) (h : zd_N Ts s) : zd_N Ts U := by
  intro w hw hn
  have h1 := h w hw hn
  cases w <;> first | (simp [zd_nest] at hn; done) | exact va_Nw.warmF hW h1 | exact va_Nw.warmM hW h1
theorem zd_N.same {Ts : List Cond} {s U : State} (hv : s.vm = U.vm) (h : zd_N Ts s) : zd_N Ts U := by
  intro w hw hn
  have h1 := h w hw hn
  cases w <;> first | (simp [zd_nest] at hn; done) | exact va_Nw.same rfl hv h1
theorem zd_nuse {w : Cond} {A : Array Value} {U : State} (hn : zd_nest w = true) (h : va_Nw w U) : w.before A U = true := by
  cases w <;> first | (simp [zd_nest] at hn; done) | exact va_Nw.use rfl h
theorem zd_nof {w : Cond} {A : Array Value} {U : State} (hn : zd_nest w = true) (h : w.before A U = true) : va_Nw w U := by
  cases w <;> first | (simp [zd_nest] at hn; done) | exact va_Nw.of rfl h
def zd_wy (y : MethodName) (cc : ByteArray) (nL : Nat) (ret : Option FieldType) (Ts : List Cond) : List Cond := .code y cc nL ret :: Ts.filter goodWord
/-- a contract over a world of cells at known addresses; nothing is made -/
def zd_Ct (l : Launch) (D : va_G) (cl : List vw_C) (tys : List (ClassId × FieldType)) (Ts : List Cond) (y : MethodName) (cc : ByteArray) (nL : Nat) (ret : Option FieldType) (R : Room) (av : List Value) (ws : va_W) (post : Option Value → va_W → Prop) : Prop :=
  Met l y (zd_wy y cc nL ret Ts) R (va_Pc av (fun U => va_P D cl ws U.heap ∧ va_K D cl tys U ∧ va_D (fun _ => True) ws ∧ zd_N Ts U)) (zd_Q D cl tys (zd_A ws) post) 0 0 (zd_A ws)
def zd_W (p : Program) (l : Launch) (e : Env) (R : Room) (s : State) (m : MethodId) (args : Array Value) (below : List Frame) (meth : Method) (c : Code) (D : va_G) (cl : List vw_C) (A : Nat → Prop) (nL : Nat) (Q : State → Prop) (ws : va_W) (L : List (Option Value)) (pc : Nat) (st : List Value) : Prop :=
  ∀ (H : Heap) (locs : List Loc) (ls : Array Slot), va_P D cl ws H → va_D A ws → va_S A s.heap H locs → zd_L ls nL L → W p l e R s m args below meth c H locs 0 0 Q (F0 m pc ls st)
/-- Z is the walk of a method of ours -/
def zd_E (Z : va_W → List (Option Value) → Nat → List Value → Prop) (l : Launch) (D : va_G) (cl : List vw_C) (tys : List (ClassId × FieldType)) (cc : ByteArray) (nL : Nat) (own : String) (Ts : List Cond) (R : Room) (ret : Option FieldType) (post : Option Value → va_W → Prop) : Prop :=
  ∃ (p : Program) (e : Env) (s : State) (m : MethodId) (args : Array Value) (below : List Frame) (meth : Method) (c : Code) (A : Nat → Prop),
    p.tables.exec = Jvm.exec ∧ c.code = cc ∧ c.maxLocals = nL ∧ s.vm.findClass own = some m.cls ∧ (∀ w ∈ Ts, w.before args s = true) ∧ va_K D cl tys s ∧ meth.sig.returnType = ret ∧ meth.locks = false ∧
    Z = zd_W p l e R s m args below meth c D cl A nL (MQ below (zd_Q D cl tys A post) args s 0 0 A)
/-- every word is of the tables -/
def zd_G (Ts : List Cond) : Prop := ∀ w ∈ Ts, goodWord w = true ∨ zd_nest w = true
theorem zd_init : ∀ (av : List Value) (n k i : Nat) (v : Value), (∀ w ∈ av, w.category = 1) → (av.map some ++ List.replicate n (none : Option Value))[i]? = some (some v) → (k + i, v) ∈ lv_args k av ∧ v ∈ av
  | [], n, k, i, v, _, h => by
    simp only [List.map_nil, List.nil_append, List.getElem?_replicate] at h
    by_cases hi : i < n
    · rw [if_pos hi] at h; cases h
    · rw [if_neg hi] at h; cases h
  | a :: r, n, k, 0, v, hc, h => by
    simp at h
    subst h
    exact ⟨by simp [lv_args], List.mem_cons_self⟩
  | a :: r, n, k, i + 1, v, hc, h => by
    have hc1 : a.category = 1 := hc a List.mem_cons_self
    obtain ⟨h1, h2⟩ := zd_init r n (k + 1) i v (fun w hw => hc w (List.mem_cons_of_mem _ hw)) (by simpa using h)
    refine ⟨?_, List.mem_cons_of_mem _ h2⟩
    have e : k + (i + 1) = k + 1 + i := by omega
    rw [e]
    simp only [lv_args]
    have : ¬ a.category = 2 := by omega
    rw [if_neg this]
    exact List.mem_cons_of_mem _ h1
theorem zd_met {l : Launch} {D : va_G} {cl : List vw_C} {tys : List (ClassId × FieldType)} {y : MethodName} {cc : ByteArray} {nL : Nat} {Ts : List Cond} {R : Room} {ret : Option FieldType} {av : List Value} {ws : va_W} {post : Option Value → va_W → Prop}
    (G : zd_G Ts) (hy : plainName y.cls = true) (hc0 : av.all (fun v => v.category == 1) = true) (hn : (lg_sl av).length ≤ nL)
    (body : ∀ Z, zd_E Z l D cl tys cc nL y.cls Ts R ret post → Z ws (av.map some ++ List.replicate (nL - av.length) none) 0 []) : zd_Ct l D cl tys Ts y cc nL ret R av ws post := by
  have hc : ∀ v ∈ av, v.category = 1 := fun v hv => by simpa using List.all_eq_true.mp hc0 v hv
  refine Met.ofW (cc := cc) (maxL := nL) (ret := ret) hy rfl ?_
  intro p e s m args below meth c s₁ B hml hv
  obtain ⟨rfl, hP, hK, hD0, hN0⟩ := hv
  have hD : va_D (zd_A ws) ws := ⟨hD0.1, fun k q hk => ⟨k, q.2, hk⟩⟩
  have hl := lv_entry av (n := nL) hn
  rw [lg_entry_eq]
  have hown : s.vm.findClass y.cls = some m.cls := findClass_of_methodNamed B.named
  have hts := atoms_spec (ws := zd_wy y cc nL ret Ts) B.pre
  refine body _ ⟨p, e, s, m, av.toArray, below, meth, c, zd_A ws, B.exec, B.bytes, hml, hown, fun w hw => (G w hw).elim (fun g => hts w (List.mem_cons_of_mem _ (List.mem_filter.mpr ⟨hw, g⟩))) (fun g => zd_nuse g (hN0 w hw g)), hK, B.returns, B.notSynchronized, rfl⟩ s.heap [] _ hP hD va_S.rf ?_
  refine ⟨hl.1, hl.2.1, fun i v hi => ?_⟩
  obtain ⟨h1, h2⟩ := zd_init av _ 0 i v hc hi
  rw [Nat.zero_add] at h1
  exact ⟨hc v h2, hl.2.2 (i, v) h1⟩
/-- the room of d frames -/
def zd_rm (d : Nat) : Room := { frames := d, cells := 0, slots := 0, locals := 40 * d }
/-- a field that the instruction of that number reads: object class ci, place k -/
def zd_F (cl : List vw_C) (Ts : List Cond) (own : String) (index ci k : Nat) : Prop :=
  ∃ (C : String) (T : u_T) (N : Nat), cl[ci]? = some (C, T, N) ∧ (∀ w ∈ u_ws C T N, w ∈ Ts) ∧ k < N ∧ (Cond.fieldLink own index (T k).1 (T k).2.1 (T k).2.2.1 ∈ Ts ∨ ∃ host, Cond.fieldLinkNest own index (T k).1 (T k).2.1 (T k).2.2.1 host ∈ Ts)
/-- an int field that the instruction of that number writes -/
def zd_FP (cl : List vw_C) (Ts : List Cond) (own : String) (index ci k : Nat) : Prop :=
  ∃ (C : String) (T : u_T) (N : Nat) (ty : Nat → FieldType), cl[ci]? = some (C, T, N) ∧ (∀ w ∈ u_ws C T N, w ∈ Ts) ∧ k < N ∧ (Cond.fieldLink own index (T k).1 (T k).2.1 (T k).2.2.1 ∈ Ts ∨ ∃ host, Cond.fieldLinkNest own index (T k).1 (T k).2.1 (T k).2.2.1 host ∈ Ts) ∧
    (∀ k, k < N → parseFieldDescriptor (T k).2.2.1 = some (ty k)) ∧ (∀ a, a < N → ∀ b, b < N → a ≠ b → (T a).2.1 ≠ (T b).2.1) ∧ (T k).2.2.2 = false ∧ parseFieldDescriptor (T k).2.2.1 = some .int
/-- what a call of y needs: the code, the link, the number of its parameters -/
def zd_C (Ts : List Cond) (own : String) (index : Nat) (y : MethodName) (bytes : ByteArray) (maxL : Nat) (r : Option FieldType) (n : Nat) : Prop :=
  Cond.code y bytes maxL r ∈ Ts ∧ Cond.initialized y.cls ∈ Ts ∧ (y.cls ≠ "java/lang/invoke/MethodHandle" ∧ y.cls ≠ "java/lang/invoke/VarHandle") ∧ (parseMethodDescriptor y.desc).map (fun d => d.parameters.length) = some n ∧ maxL ≤ 21 ∧
    (Cond.methodLink own index y ∈ Ts ∨ ∃ host, Cond.methodLinkNest own index y host ∈ Ts)
def zd_is (v0 : Option Value) (w0 : va_W) : Option Value → va_W → Prop := fun v w => v = v0 ∧ w = w0
section ZD
variable {Z : va_W → List (Option Value) → Nat → List Value → Prop} {l : Launch} {D : va_G} {cl : List vw_C} {tys : List (ClassId × FieldType)} {cc : ByteArray} {nL : Nat} {own : String} {Ts : List Cond} {R : Room} {ret : Option FieldType} {post : Option Value → va_W → Prop}
variable {ws : va_W} {L : List (Option Value)} {pc : Nat} {st : List Value}
theorem zd_iconst (E : zd_E Z l D cl tys cc nL own Ts R ret post) {n : Int} {v : Int32} (d : decode cc pc = .ok (.iconst n, 1)) (hv : Int32.ofInt n = v) (k : Z ws L (pc + 1) (.int v :: st)) : Z ws L pc st := by
  obtain ⟨p, e, s, m, args, below, meth, c, A, hx, hb, hml, hown, hts, hK, hr, hlk, rfl⟩ := E
  exact fun H locs ls hP hD hS hl => lv_iconst hx hb d hv (k H locs ls hP hD hS hl)
theorem zd_bipush (E : zd_E Z l D cl tys cc nL own Ts R ret post) {n : Int} {v : Int32} (d : decode cc pc = .ok (.bipush n, 2)) (hv : (Int8.ofInt n).toInt32 = v) (k : Z ws L (pc + 2) (.int v :: st)) : Z ws L pc st := by
  obtain ⟨p, e, s, m, args, below, meth, c, A, hx, hb, hml, hown, hts, hK, hr, hlk, rfl⟩ := E
  exact fun H locs ls hP hD hS hl => lv_bipush hx hb d hv (k H locs ls hP hD hS hl)
theorem zd_sipush (E : zd_E Z l D cl tys cc nL own Ts R ret post) {n : Int} {v : Int32} (d : decode cc pc = .ok (.sipush n, 3)) (hv : (Int16.ofInt n).toInt32 = v) (k : Z ws L (pc + 3) (.int v :: st)) : Z ws L pc st := by
  obtain ⟨p, e, s, m, args, below, meth, c, A, hx, hb, hml, hown, hts, hK, hr, hlk, rfl⟩ := E
  exact fun H locs ls hP hD hS hl => lv_sipush hx hb d hv (k H locs ls hP hD hS hl)
theorem zd_ldc (E : zd_E Z l D cl tys cc nL own Ts R ret post) {index : Nat} {v : Int32} (d : decode cc pc = .ok (.ldc index, 2)) (hc : Cond.constant own index v ∈ Ts) (k : Z ws L (pc + 2) (.int v :: st)) : Z ws L pc st := by
  obtain ⟨p, e, s, m, args, below, meth, c, A, hx, hb, hml, hown, hts, hK, hr, hlk, rfl⟩ := E
  exact fun H locs ls hP hD hS hl => lv_ldc hx hb hown (hts _ hc) d (k H locs ls hP hD hS hl)
theorem zd_iload_n (E : zd_E Z l D cl tys cc nL own Ts R ret post) {i : Fin 4} {x : Int32} (d : decode cc pc = .ok (.iload_n i, 1)) (h : L[(i : Nat)]? = some (some (.int x))) (k : Z ws L (pc + 1) (.int x :: st)) : Z ws L pc st := by
  obtain ⟨p, e, s, m, args, below, meth, c, A, hx, hb, hml, hown, hts, hK, hr, hlk, rfl⟩ := E
  exact fun H locs ls hP hD hS hl => lv_iload_n hx hb d rfl (hl.at h) (k H locs ls hP hD hS hl)
theorem zd_iload (E : zd_E Z l D cl tys cc nL own Ts R ret post) {i : Nat} {x : Int32} (d : decode cc pc = .ok (.iload i, 2)) (h : L[i]? = some (some (.int x))) (k : Z ws L (pc + 2) (.int x :: st)) : Z ws L pc st := by
  obtain ⟨p, e, s, m, args, below, meth, c, A, hx, hb, hml, hown, hts, hK, hr, hlk, rfl⟩ := E
  exact fun H locs ls hP hD hS hl => lv_iload hx hb d (hl.at h) (k H locs ls hP hD hS hl)
theorem zd_istore_n (E : zd_E Z l D cl tys cc nL own Ts R ret post) {i : Fin 4} {x : Int32} (d : decode cc pc = .ok (.istore_n i, 1)) (hn : (i : Nat) < nL) (k : Z ws (L.set i (some (.int x))) (pc + 1) st) : Z ws L pc (.int x :: st) := by
  obtain ⟨p, e, s, m, args, below, meth, c, A, hx, hb, hml, hown, hts, hK, hr, hlk, rfl⟩ := E
  exact fun H locs ls hP hD hS hl => lv_istore_n hx hb d rfl hl.has hn rfl (fun ls1 h1 => k H locs ls1 hP hD hS (hl.put rfl h1))
theorem zd_istore (E : zd_E Z l D cl tys cc nL own Ts R ret post) {i : Nat} {x : Int32} (d : decode cc pc = .ok (.istore i, 2)) (hn : i < nL) (k : Z ws (L.set i (some (.int x))) (pc + 2) st) : Z ws L pc (.int x :: st) := by
  obtain ⟨p, e, s, m, args, below, meth, c, A, hx, hb, hml, hown, hts, hK, hr, hlk, rfl⟩ := E
  exact fun H locs ls hP hD hS hl => lv_istore hx hb d hl.has hn rfl (fun ls1 h1 => k H locs ls1 hP hD hS (hl.put rfl h1))
theorem zd_aload_n (E : zd_E Z l D cl tys cc nL own Ts R ret post) {i : Fin 4} {x : Nat} (d : decode cc pc = .ok (.aload_n i, 1)) (h : L[(i : Nat)]? = some (some (.ref x))) (k : Z ws L (pc + 1) (.ref x :: st)) : Z ws L pc st := by
  obtain ⟨p, e, s, m, args, below, meth, c, A, hx, hb, hml, hown, hts, hK, hr, hlk, rfl⟩ := E
  exact fun H locs ls hP hD hS hl => lv_aload_n hx hb d rfl (hl.at h) (k H locs ls hP hD hS hl)
theorem zd_aload (E : zd_E Z l D cl tys cc nL own Ts R ret post) {i : Nat} {x : Nat} (d : decode cc pc = .ok (.aload i, 2)) (h : L[i]? = some (some (.ref x))) (k : Z ws L (pc + 2) (.ref x :: st)) : Z ws L pc st := by
  obtain ⟨p, e, s, m, args, below, meth, c, A, hx, hb, hml, hown, hts, hK, hr, hlk, rfl⟩ := E
  exact fun H locs ls hP hD hS hl => lv_aload hx hb d (hl.at h) (k H locs ls hP hD hS hl)
theorem zd_astore_n (E : zd_E Z l D cl tys cc nL own Ts R ret post) {i : Fin 4} {x : Nat} (d : decode cc pc = .ok (.astore_n i, 1)) (hn : (i : Nat) < nL) (k : Z ws (L.set i (some (.ref x))) (pc + 1) st) : Z ws L pc (.ref x :: st) := by
  obtain ⟨p, e, s, m, args, below, meth, c, A, hx, hb, hml, hown, hts, hK, hr, hlk, rfl⟩ := E
  exact fun H locs ls hP hD hS hl => lv_astore_n hx hb d rfl hl.has hn rfl (fun ls1 h1 => k H locs ls1 hP hD hS (hl.put rfl h1))
theorem zd_astore (E : zd_E Z l D cl tys cc nL own Ts R ret post) {i : Nat} {x : Nat} (d : decode cc pc = .ok (.astore i, 2)) (hn : i < nL) (k : Z ws (L.set i (some (.ref x))) (pc + 2) st) : Z ws L pc (.ref x :: st) := by
  obtain ⟨p, e, s, m, args, below, meth, c, A, hx, hb, hml, hown, hts, hK, hr, hlk, rfl⟩ := E
  exact fun H locs ls hP hD hS hl => lv_astore hx hb d hl.has hn rfl (fun ls1 h1 => k H locs ls1 hP hD hS (hl.put rfl h1))
theorem zd_iinc (E : zd_E Z l D cl tys cc nL own Ts R ret post) {i : Nat} {n : Int} {x v : Int32} (d : decode cc pc = .ok (.iinc i n, 3)) (h : L[i]? = some (some (.int x))) (hv : x + Int32.ofInt n = v) (hn : i < nL) (k : Z ws (L.set i (some (.int v))) (pc + 3) st) : Z ws L pc st := by
  obtain ⟨p, e, s, m, args, below, meth, c, A, hx, hb, hml, hown, hts, hK, hr, hlk, rfl⟩ := E
  intro H locs ls hP hD hS hl
  obtain ⟨k0, hk0⟩ := List.mem_iff_getElem?.mp (zd_pairs_mem.mpr h)
  exact lv_iinc hx hb d hl.has hk0 hv hn rfl (fun ls1 h1 => k H locs ls1 hP hD hS (hl.put rfl h1))
theorem zd_iadd (E : zd_E Z l D cl tys cc nL own Ts R ret post) {x y : Int32} (d : decode cc pc = .ok (.iadd, 1)) (k : Z ws L (pc + 1) (.int (x + y) :: st)) : Z ws L pc (.int y :: .int x :: st) := by
  obtain ⟨p, e, s, m, args, below, meth, c, A, hx, hb, hml, hown, hts, hK, hr, hlk, rfl⟩ := E
  exact fun H locs ls hP hD hS hl => lv_iadd hx hb d (k H locs ls hP hD hS hl)
theorem zd_isub (E : zd_E Z l D cl tys cc nL own Ts R ret post) {x y : Int32} (d : decode cc pc = .ok (.isub, 1)) (k : Z ws L (pc + 1) (.int (x - y) :: st)) : Z ws L pc (.int y :: .int x :: st) := by
  obtain ⟨p, e, s, m, args, below, meth, c, A, hx, hb, hml, hown, hts, hK, hr, hlk, rfl⟩ := E
  exact fun H locs ls hP hD hS hl => lv_isub hx hb d (k H locs ls hP hD hS hl)
theorem zd_imul (E : zd_E Z l D cl tys cc nL own Ts R ret post) {x y : Int32} (d : decode cc pc = .ok (.imul, 1)) (k : Z ws L (pc + 1) (.int (x * y) :: st)) : Z ws L pc (.int y :: .int x :: st) := by
  obtain ⟨p, e, s, m, args, below, meth, c, A, hx, hb, hml, hown, hts, hK, hr, hlk, rfl⟩ := E
  exact fun H locs ls hP hD hS hl => lv_imul hx hb d (k H locs ls hP hD hS hl)
theorem zd_iand (E : zd_E Z l D cl tys cc nL own Ts R ret post) {x y : Int32} (d : decode cc pc = .ok (.iand, 1)) (k : Z ws L (pc + 1) (.int (x &&& y) :: st)) : Z ws L pc (.int y :: .int x :: st) := by
  obtain ⟨p, e, s, m, args, below, meth, c, A, hx, hb, hml, hown, hts, hK, hr, hlk, rfl⟩ := E
  exact fun H locs ls hP hD hS hl => lv_iand hx hb d (k H locs ls hP hD hS hl)
theorem zd_ior (E : zd_E Z l D cl tys cc nL own Ts R ret post) {x y : Int32} (d : decode cc pc = .ok (.ior, 1)) (k : Z ws L (pc + 1) (.int (x ||| y) :: st)) : Z ws L pc (.int y :: .int x :: st) := by
  obtain ⟨p, e, s, m, args, below, meth, c, A, hx, hb, hml, hown, hts, hK, hr, hlk, rfl⟩ := E
  exact fun H locs ls hP hD hS hl => lv_ior hx hb d (k H locs ls hP hD hS hl)
theorem zd_ixor (E : zd_E Z l D cl tys cc nL own Ts R ret post) {x y : Int32} (d : decode cc pc = .ok (.ixor, 1)) (k : Z ws L (pc + 1) (.int (x ^^^ y) :: st)) : Z ws L pc (.int y :: .int x :: st) := by
  obtain ⟨p, e, s, m, args, below, meth, c, A, hx, hb, hml, hown, hts, hK, hr, hlk, rfl⟩ := E
  exact fun H locs ls hP hD hS hl => lv_ixor hx hb d (k H locs ls hP hD hS hl)
theorem zd_ishl (E : zd_E Z l D cl tys cc nL own Ts R ret post) {x y : Int32} (d : decode cc pc = .ok (.ishl, 1)) (k : Z ws L (pc + 1) (.int (x <<< (y &&& 31)) :: st)) : Z ws L pc (.int y :: .int x :: st) := by
  obtain ⟨p, e, s, m, args, below, meth, c, A, hx, hb, hml, hown, hts, hK, hr, hlk, rfl⟩ := E
  exact fun H locs ls hP hD hS hl => lv_ishl hx hb d (k H locs ls hP hD hS hl)
theorem zd_ishr (E : zd_E Z l D cl tys cc nL own Ts R ret post) {x y : Int32} (d : decode cc pc = .ok (.ishr, 1)) (k : Z ws L (pc + 1) (.int (x >>> (y &&& 31)) :: st)) : Z ws L pc (.int y :: .int x :: st) := by
  obtain ⟨p, e, s, m, args, below, meth, c, A, hx, hb, hml, hown, hts, hK, hr, hlk, rfl⟩ := E
  exact fun H locs ls hP hD hS hl => lv_ishr hx hb d (k H locs ls hP hD hS hl)
theorem zd_irem (E : zd_E Z l D cl tys cc nL own Ts R ret post) {x y : Int32} (d : decode cc pc = .ok (.irem, 1)) (hne : ¬ y = 0) (k : Z ws L (pc + 1) (.int (x - x / y * y) :: st)) : Z ws L pc (.int y :: .int x :: st) := by
  obtain ⟨p, e, s, m, args, below, meth, c, A, hx, hb, hml, hown, hts, hK, hr, hlk, rfl⟩ := E
  exact fun H locs ls hP hD hS hl => lv_irem hx hb d hne (k H locs ls hP hD hS hl)
theorem zd_dup (E : zd_E Z l D cl tys cc nL own Ts R ret post) {a : Value} (d : decode cc pc = .ok (.dup, 1)) (ha : a.category = 1) (k : Z ws L (pc + 1) (a :: a :: st)) : Z ws L pc (a :: st) := by
  obtain ⟨p, e, s, m, args, below, meth, c, A, hx, hb, hml, hown, hts, hK, hr, hlk, rfl⟩ := E
  exact fun H locs ls hP hD hS hl => lv_dup hx hb d ha (k H locs ls hP hD hS hl)
theorem zd_pop (E : zd_E Z l D cl tys cc nL own Ts R ret post) {a : Value} (d : decode cc pc = .ok (.pop, 1)) (ha : a.category = 1) (k : Z ws L (pc + 1) st) : Z ws L pc (a :: st) := by
  obtain ⟨p, e, s, m, args, below, meth, c, A, hx, hb, hml, hown, hts, hK, hr, hlk, rfl⟩ := E
  exact fun H locs ls hP hD hS hl => lv_pop hx hb d ha (k H locs ls hP hD hS hl)
theorem zd_dup_x1 (E : zd_E Z l D cl tys cc nL own Ts R ret post) {a b : Value} (d : decode cc pc = .ok (.dup_x1, 1)) (ha : a.category = 1) (hb1 : b.category = 1) (k : Z ws L (pc + 1) (a :: b :: a :: st)) : Z ws L pc (a :: b :: st) := by
  obtain ⟨p, e, s, m, args, below, meth, c, A, hx, hb, hml, hown, hts, hK, hr, hlk, rfl⟩ := E
  exact fun H locs ls hP hD hS hl => lv_dup_x1 hx hb d ha hb1 (k H locs ls hP hD hS hl)
theorem zd_dup_x2 (E : zd_E Z l D cl tys cc nL own Ts R ret post) {a b g : Value} (d : decode cc pc = .ok (.dup_x2, 1)) (ha : a.category = 1) (hb1 : b.category = 1) (hg : g.category = 1) (k : Z ws L (pc + 1) (a :: b :: g :: a :: st)) : Z ws L pc (a :: b :: g :: st) := by
  obtain ⟨p, e, s, m, args, below, meth, c, A, hx, hb, hml, hown, hts, hK, hr, hlk, rfl⟩ := E
  exact fun H locs ls hP hD hS hl => lv_dup_x2 hx hb d ha hb1 hg (k H locs ls hP hD hS hl)
theorem zd_dup2 (E : zd_E Z l D cl tys cc nL own Ts R ret post) {a b : Value} (d : decode cc pc = .ok (.dup2, 1)) (ha : a.category = 1) (hb1 : b.category = 1) (k : Z ws L (pc + 1) (a :: b :: a :: b :: st)) : Z ws L pc (a :: b :: st) := by
  obtain ⟨p, e, s, m, args, below, meth, c, A, hx, hb, hml, hown, hts, hK, hr, hlk, rfl⟩ := E
  exact fun H locs ls hP hD hS hl => lv_dup2_11 hx hb d ha hb1 (k H locs ls hP hD hS hl)
theorem zd_if_eq (E : zd_E Z l D cl tys cc nL own Ts R ret post) {x : Int32} {off : Int} (tgt : Nat) (d : decode cc pc = .ok (.ifCond .eq off, 3)) (ht : (pc : Int) + off = (tgt : Int)) (kt : x = 0 → Z ws L tgt st) (kf : ¬ (x = 0) → Z ws L (pc + 3) st) : Z ws L pc (.int x :: st) := by
  obtain ⟨p, e, s, m, args, below, meth, c, A, hx, hb, hml, hown, hts, hK, hr, hlk, rfl⟩ := E
  exact fun H locs ls hP hD hS hl => lv_if_eq hx hb d ht (fun h => kt (by first | exact h | simpa using h) H locs ls hP hD hS hl) (fun h => kf (by first | exact h | simpa using h) H locs ls hP hD hS hl)
theorem zd_ic_eq (E : zd_E Z l D cl tys cc nL own Ts R ret post) {x y : Int32} {off : Int} (tgt : Nat) (d : decode cc pc = .ok (.if_icmp .eq off, 3)) (ht : (pc : Int) + off = (tgt : Int)) (kt : x = y → Z ws L tgt st) (kf : ¬ (x = y) → Z ws L (pc + 3) st) : Z ws L pc (.int y :: .int x :: st) := by
  obtain ⟨p, e, s, m, args, below, meth, c, A, hx, hb, hml, hown, hts, hK, hr, hlk, rfl⟩ := E
  exact fun H locs ls hP hD hS hl => lv_icmp_eq hx hb d ht (fun h => kt (by first | exact h | simpa using h) H locs ls hP hD hS hl) (fun h => kf (by first | exact h | simpa using h) H locs ls hP hD hS hl)
theorem zd_if_ne (E : zd_E Z l D cl tys cc nL own Ts R ret post) {x : Int32} {off : Int} (tgt : Nat) (d : decode cc pc = .ok (.ifCond .ne off, 3)) (ht : (pc : Int) + off = (tgt : Int)) (kt : ¬ x = 0 → Z ws L tgt st) (kf : ¬ (¬ x = 0) → Z ws L (pc + 3) st) : Z ws L pc (.int x :: st) := by
  obtain ⟨p, e, s, m, args, below, meth, c, A, hx, hb, hml, hown, hts, hK, hr, hlk, rfl⟩ := E
  exact fun H locs ls hP hD hS hl => lv_if_ne hx hb d ht (fun h => kt (by first | exact h | simpa using h) H locs ls hP hD hS hl) (fun h => kf (by first | exact h | simpa using h) H locs ls hP hD hS hl)
theorem zd_ic_ne (E : zd_E Z l D cl tys cc nL own Ts R ret post) {x y : Int32} {off : Int} (tgt : Nat) (d : decode cc pc = .ok (.if_icmp .ne off, 3)) (ht : (pc : Int) + off = (tgt : Int)) (kt : ¬ x = y → Z ws L tgt st) (kf : ¬ (¬ x = y) → Z ws L (pc + 3) st) : Z ws L pc (.int y :: .int x :: st) := by
  obtain ⟨p, e, s, m, args, below, meth, c, A, hx, hb, hml, hown, hts, hK, hr, hlk, rfl⟩ := E
  exact fun H locs ls hP hD hS hl => lv_icmp_ne hx hb d ht (fun h => kt (by first | exact h | simpa using h) H locs ls hP hD hS hl) (fun h => kf (by first | exact h | simpa using h) H locs ls hP hD hS hl)
theorem zd_if_lt (E : zd_E Z l D cl tys cc nL own Ts R ret post) {x : Int32} {off : Int} (tgt : Nat) (d : decode cc pc = .ok (.ifCond .lt off, 3)) (ht : (pc : Int) + off = (tgt : Int)) (kt : x < 0 → Z ws L tgt st) (kf : ¬ (x < 0) → Z ws L (pc + 3) st) : Z ws L pc (.int x :: st) := by
  obtain ⟨p, e, s, m, args, below, meth, c, A, hx, hb, hml, hown, hts, hK, hr, hlk, rfl⟩ := E
  exact fun H locs ls hP hD hS hl => lv_if_lt hx hb d ht (fun h => kt (by first | exact h | simpa using h) H locs ls hP hD hS hl) (fun h => kf (by first | exact h | simpa using h) H locs ls hP hD hS hl)
theorem zd_ic_lt (E : zd_E Z l D cl tys cc nL own Ts R ret post) {x y : Int32} {off : Int} (tgt : Nat) (d : decode cc pc = .ok (.if_icmp .lt off, 3)) (ht : (pc : Int) + off = (tgt : Int)) (kt : x < y → Z ws L tgt st) (kf : ¬ (x < y) → Z ws L (pc + 3) st) : Z ws L pc (.int y :: .int x :: st) := by
  obtain ⟨p, e, s, m, args, below, meth, c, A, hx, hb, hml, hown, hts, hK, hr, hlk, rfl⟩ := E
  exact fun H locs ls hP hD hS hl => lv_icmp_lt hx hb d ht (fun h => kt (by first | exact h | simpa using h) H locs ls hP hD hS hl) (fun h => kf (by first | exact h | simpa using h) H locs ls hP hD hS hl)
theorem zd_if_ge (E : zd_E Z l D cl tys cc nL own Ts R ret post) {x : Int32} {off : Int} (tgt : Nat) (d : decode cc pc = .ok (.ifCond .ge off, 3)) (ht : (pc : Int) + off = (tgt : Int)) (kt : 0 ≤ x → Z ws L tgt st) (kf : ¬ (0 ≤ x) → Z ws L (pc + 3) st) : Z ws L pc (.int x :: st) := by
  obtain ⟨p, e, s, m, args, below, meth, c, A, hx, hb, hml, hown, hts, hK, hr, hlk, rfl⟩ := E
  exact fun H locs ls hP hD hS hl => lv_if_ge hx hb d ht (fun h => kt (by first | exact h | simpa using h) H locs ls hP hD hS hl) (fun h => kf (by first | exact h | simpa using h) H locs ls hP hD hS hl)
theorem zd_ic_ge (E : zd_E Z l D cl tys cc nL own Ts R ret post) {x y : Int32} {off : Int} (tgt : Nat) (d : decode cc pc = .ok (.if_icmp .ge off, 3)) (ht : (pc : Int) + off = (tgt : Int)) (kt : y ≤ x → Z ws L tgt st) (kf : ¬ (y ≤ x) → Z ws L (pc + 3) st) : Z ws L pc (.int y :: .int x :: st) := by
  obtain ⟨p, e, s, m, args, below, meth, c, A, hx, hb, hml, hown, hts, hK, hr, hlk, rfl⟩ := E
  exact fun H locs ls hP hD hS hl => lv_icmp_ge hx hb d ht (fun h => kt (by first | exact h | simpa using h) H locs ls hP hD hS hl) (fun h => kf (by first | exact h | simpa using h) H locs ls hP hD hS hl)
theorem zd_if_gt (E : zd_E Z l D cl tys cc nL own Ts R ret post) {x : Int32} {off : Int} (tgt : Nat) (d : decode cc pc = .ok (.ifCond .gt off, 3)) (ht : (pc : Int) + off = (tgt : Int)) (kt : 0 < x → Z ws L tgt st) (kf : ¬ (0 < x) → Z ws L (pc + 3) st) : Z ws L pc (.int x :: st) := by
  obtain ⟨p, e, s, m, args, below, meth, c, A, hx, hb, hml, hown, hts, hK, hr, hlk, rfl⟩ := E
  exact fun H locs ls hP hD hS hl => lv_if_gt hx hb d ht (fun h => kt (by first | exact h | simpa using h) H locs ls hP hD hS hl) (fun h => kf (by first | exact h | simpa using h) H locs ls hP hD hS hl)
theorem zd_ic_gt (E : zd_E Z l D cl tys cc nL own Ts R ret post) {x y : Int32} {off : Int} (tgt : Nat) (d : decode cc pc = .ok (.if_icmp .gt off, 3)) (ht : (pc : Int) + off = (tgt : Int)) (kt : y < x → Z ws L tgt st) (kf : ¬ (y < x) → Z ws L (pc + 3) st) : Z ws L pc (.int y :: .int x :: st) := by
  obtain ⟨p, e, s, m, args, below, meth, c, A, hx, hb, hml, hown, hts, hK, hr, hlk, rfl⟩ := E
  exact fun H locs ls hP hD hS hl => lv_icmp_gt hx hb d ht (fun h => kt (by first | exact h | simpa using h) H locs ls hP hD hS hl) (fun h => kf (by first | exact h | simpa using h) H locs ls hP hD hS hl)
theorem zd_if_le (E : zd_E Z l D cl tys cc nL own Ts R ret post) {x : Int32} {off : Int} (tgt : Nat) (d : decode cc pc = .ok (.ifCond .le off, 3)) (ht : (pc : Int) + off = (tgt : Int)) (kt : x ≤ 0 → Z ws L tgt st) (kf : ¬ (x ≤ 0) → Z ws L (pc + 3) st) : Z ws L pc (.int x :: st) := by
  obtain ⟨p, e, s, m, args, below, meth, c, A, hx, hb, hml, hown, hts, hK, hr, hlk, rfl⟩ := E
  exact fun H locs ls hP hD hS hl => lv_if_le hx hb d ht (fun h => kt (by first | exact h | simpa using h) H locs ls hP hD hS hl) (fun h => kf (by first | exact h | simpa using h) H locs ls hP hD hS hl)
theorem zd_ic_le (E : zd_E Z l D cl tys cc nL own Ts R ret post) {x y : Int32} {off : Int} (tgt : Nat) (d : decode cc pc = .ok (.if_icmp .le off, 3)) (ht : (pc : Int) + off = (tgt : Int)) (kt : x ≤ y → Z ws L tgt st) (kf : ¬ (x ≤ y) → Z ws L (pc + 3) st) : Z ws L pc (.int y :: .int x :: st) := by
  obtain ⟨p, e, s, m, args, below, meth, c, A, hx, hb, hml, hown, hts, hK, hr, hlk, rfl⟩ := E
  exact fun H locs ls hP hD hS hl => lv_icmp_le hx hb d ht (fun h => kt (by first | exact h | simpa using h) H locs ls hP hD hS hl) (fun h => kf (by first | exact h | simpa using h) H locs ls hP hD hS hl)
theorem zd_goto (E : zd_E Z l D cl tys cc nL own Ts R ret post) {off : Int} (tgt : Nat) (d : decode cc pc = .ok (.goto off, 3)) (ht : (pc : Int) + off = (tgt : Int)) (k : Z ws L tgt st) : Z ws L pc st := by
  obtain ⟨p, e, s, m, args, below, meth, c, A, hx, hb, hml, hown, hts, hK, hr, hlk, rfl⟩ := E
  exact fun H locs ls hP hD hS hl => lv_goto hx hb d ht (k H locs ls hP hD hS hl)
theorem zd_get (E : zd_E Z l D cl tys cc nL own Ts R ret post) {index ci i a : Nat} {fs : List Value} {v : Value} (d : decode cc pc = .ok (.getfield index, 3)) (F : zd_F cl Ts own index ci i) (j : Nat) (he : ws[j]? = some (a, .inr (ci, fs))) (hv : fs[i]? = some v) (k : Z ws L (pc + 3) (v :: st)) : Z ws L pc (.ref a :: st) := by
  obtain ⟨p, e, s, m, args, below, meth, c, A, hx, hb, hml, hown, hts, hK, hr, hlk, rfl⟩ := E
  obtain ⟨C, T, N, hc, hin, hk, hlink | ⟨host, hlink⟩⟩ := F
  · exact fun H locs ls hP hD hS hl => va_get hx hb hts hin hown hK hP j he hc i hk (hts _ hlink) (fun _ h => h) hv d (k H locs ls hP hD hS hl)
  · exact fun H locs ls hP hD hS hl => va_getN hx hb hts hin hown hK hP j he hc i hk (hts _ hlink) (fun _ h => h) hv d (k H locs ls hP hD hS hl)
theorem zd_put (E : zd_E Z l D cl tys cc nL own Ts R ret post) {index ci i a : Nat} {fs : List Value} {x : Int32} {ws1 : va_W} (d : decode cc pc = .ok (.putfield index, 3)) (F : zd_FP cl Ts own index ci i) (j : Nat) (he : ws[j]? = some (a, .inr (ci, fs))) (hl0 : i < fs.length) (hw : ws.set j (a, .inr (ci, fs.set i (.int x))) = ws1) (k : Z ws1 L (pc + 3) st) : Z ws L pc (.int x :: .ref a :: st) := by
  obtain ⟨p, e, s, m, args, below, meth, c, A, hx, hb, hml, hown, hts, hK, hr, hlk, rfl⟩ := E
  subst hw
  obtain ⟨C, T, N, ty, hc, hin, hk, hlink, hty, hnm, hfin, hpi⟩ := F
  rcases hlink with hlink | ⟨host, hlink⟩
  · exact fun H locs ls hP hD hS hl => va_put hx hb hts hin ty hty hnm hown hK hP hD hS j he hc i hk (hts _ hlink) (fun _ h => h) hfin (ty := .int) hpi rfl rfl hl0 d (fun H1 locs1 hP1 hD1 hS1 => k H1 locs1 ls hP1 hD1 hS1 hl)
  · exact fun H locs ls hP hD hS hl => va_putN hx hb hts hin ty hty hnm hown hK hP hD hS j he hc i hk (hts _ hlink) (fun _ h => h) hfin (ty := .int) hpi rfl rfl hl0 d (fun H1 locs1 hP1 hD1 hS1 => k H1 locs1 ls hP1 hD1 hS1 hl)
theorem zd_iald (E : zd_E Z l D cl tys cc nL own Ts R ret post) {a t0 N : Nat} {cA : ClassId} {f : Nat → Int32} {i : Int32} (d : decode cc pc = .ok (.iaload, 1)) (j : Nat) (ha : ws[j]? = some (a, .inl (cA, N, .inl f))) (ht : tys[t0]? = some (cA, .int)) (x : Nat) (hi : i = nI x) (hx1 : x < N) (hN : N < 2 ^ 31) (k : Z ws L (pc + 1) (.int (f x) :: st)) : Z ws L pc (.int i :: .ref a :: st) := by
  obtain ⟨p, e, s, m, args, below, meth, c, A, hx, hb, hml, hown, hts, hK, hr, hlk, rfl⟩ := E
  subst hi
  have e1 : (nI x).toNatClampNeg = x := nI_clamp (Nat.lt_trans hx1 hN)
  exact fun H locs ls hP hD hS hl => va_iald hx hb hK hP j t0 ha ht (vp_in_nI hx1 hN) d (by rw [e1]; exact k H locs ls hP hD hS hl)
theorem zd_zald (E : zd_E Z l D cl tys cc nL own Ts R ret post) {a t0 N : Nat} {cA : ClassId} {f : Nat → Int32} {i : Int32} (d : decode cc pc = .ok (.baload, 1)) (j : Nat) (ha : ws[j]? = some (a, .inl (cA, N, .inl f))) (ht : tys[t0]? = some (cA, .boolean)) (x : Nat) (hi : i = nI x) (hx1 : x < N) (hN : N < 2 ^ 31) (k : Z ws L (pc + 1) (.int (f x) :: st)) : Z ws L pc (.int i :: .ref a :: st) := by
  obtain ⟨p, e, s, m, args, below, meth, c, A, hx, hb, hml, hown, hts, hK, hr, hlk, rfl⟩ := E
  subst hi
  have e1 : (nI x).toNatClampNeg = x := nI_clamp (Nat.lt_trans hx1 hN)
  exact fun H locs ls hP hD hS hl => va_zald hx hb hK hP j t0 ha ht (vp_in_nI hx1 hN) d (by rw [e1]; exact k H locs ls hP hD hS hl)
theorem zd_iast (E : zd_E Z l D cl tys cc nL own Ts R ret post) {a t0 N : Nat} {cA : ClassId} {f : Nat → Int32} {i v : Int32} {ws1 : va_W} (d : decode cc pc = .ok (.iastore, 1)) (j : Nat) (ha : ws[j]? = some (a, .inl (cA, N, .inl f))) (ht : tys[t0]? = some (cA, .int)) (x : Nat) (hi : i = nI x) (hx1 : x < N) (hN : N < 2 ^ 31) (hw : ws.set j (a, .inl (cA, N, .inl (upd f x v))) = ws1) (k : Z ws1 L (pc + 1) st) : Z ws L pc (.int v :: .int i :: .ref a :: st) := by
  obtain ⟨p, e, s, m, args, below, meth, c, A, hx, hb, hml, hown, hts, hK, hr, hlk, rfl⟩ := E
  subst hi
  subst hw
  have e1 : (nI x).toNatClampNeg = x := nI_clamp (Nat.lt_trans hx1 hN)
  exact fun H locs ls hP hD hS hl => va_iast hx hb hK hP hD hS j t0 ha ht (vp_in_nI hx1 hN) d (by rw [e1]; exact fun H1 locs1 hP1 hD1 hS1 => k H1 locs1 ls hP1 hD1 hS1 hl)
theorem zd_aald (E : zd_E Z l D cl tys cc nL own Ts R ret post) {a t0 N b : Nat} {cA : ClassId} {f : Nat → Option Nat} {i : Int32} {ty : FieldType} (d : decode cc pc = .ok (.aaload, 1)) (j : Nat) (ha : ws[j]? = some (a, .inl (cA, N, .inr (.inr (.inr (.inr f)))))) (ht : tys[t0]? = some (cA, ty)) (hty : ty.isReference = true) (x : Nat) (hi : i = nI x) (hx1 : x < N) (hN : N < 2 ^ 31) (hf : f x = some b) (k : Z ws L (pc + 1) (.ref b :: st)) : Z ws L pc (.int i :: .ref a :: st) := by
  obtain ⟨p, e, s, m, args, below, meth, c, A, hx, hb, hml, hown, hts, hK, hr, hlk, rfl⟩ := E
  subst hi
  have e1 : (nI x).toNatClampNeg = x := nI_clamp (Nat.lt_trans hx1 hN)
  have hin : vp_in (nI x) N := vp_in_nI hx1 hN
  have hlt : (nI x).toNatClampNeg < N := by rw [e1]; exact hx1
  exact fun H locs ls hP hD hS hl => W.aald (v := .ref b) (ty := ty) hx hb (hP j _ ha) ((hK.2 t0 _ ht).1 N (fun q => va_rf (f q))) hty (fun q => by cases q) (by show ¬ (nI x < 0 ∨ (arrV _ _ _).slots.size ≤ _); rw [arrV_size]; exact hin) (by show (arrV _ _ _).slots[_]? = _; rw [arrV_read _ _ hlt, e1, hf]; rfl) rfl rfl d (k H locs ls hP hD hS hl)
theorem zd_alen (E : zd_E Z l D cl tys cc nL own Ts R ret post) {a t0 : Nat} {cA : ClassId} {y : vp_A} {ty : FieldType} {v : Int32} (d : decode cc pc = .ok (.arraylength, 1)) (j : Nat) (ha : ws[j]? = some (a, .inl (cA, y))) (ht : tys[t0]? = some (cA, ty)) (hv : Int32.ofNat y.1 = v) (k : Z ws L (pc + 1) (.int v :: st)) : Z ws L pc (.ref a :: st) := by
  obtain ⟨p, e, s, m, args, below, meth, c, A, hx, hb, hml, hown, hts, hK, hr, hlk, rfl⟩ := E
  exact fun H locs ls hP hD hS hl => va_alen hx hb hK hP j t0 ha ht hv d (k H locs ls hP hD hS hl)
theorem zd_iret (E : zd_E Z l D cl tys cc nL own Ts R (some .int) post) {v : Int32} (d : decode cc pc = .ok (.ireturn, 1)) (h : post (some (.int v)) ws) : Z ws L pc [.int v] := by
  obtain ⟨p, e, s, m, args, below, meth, c, A, hx, hb, hml, hown, hts, hK, hr, hlk, rfl⟩ := E
  exact fun H locs ls hP hD hS hl => W.iret (v := v) hx hb hr (fun t ht hW => ⟨⟨some (.int v), ws, rfl, h, by rw [ht]; exact hP, hD, va_K.moved hW.alike hK⟩, hS.F ht⟩) hS.2.2 d hlk
theorem zd_zret (E : zd_E Z l D cl tys cc nL own Ts R (some .boolean) post) {v : Int32} (d : decode cc pc = .ok (.ireturn, 1)) (hn : narrow .boolean (.int v) = .int v) (h : post (some (.int v)) ws) : Z ws L pc [.int v] := by
  obtain ⟨p, e, s, m, args, below, meth, c, A, hx, hb, hml, hown, hts, hK, hr, hlk, rfl⟩ := E
  exact fun H locs ls hP hD hS hl => W.zret (v := v) hx hb hr hn (fun t ht hW => ⟨⟨some (.int v), ws, rfl, h, by rw [ht]; exact hP, hD, va_K.moved hW.alike hK⟩, hS.F ht⟩) hS.2.2 d hlk
theorem zd_vret (E : zd_E Z l D cl tys cc nL own Ts R none post) (d : decode cc pc = .ok (.return_, 1)) (h : post none ws) : Z ws L pc [] := by
  obtain ⟨p, e, s, m, args, below, meth, c, A, hx, hb, hml, hown, hts, hK, hr, hlk, rfl⟩ := E
  exact fun H locs ls hP hD hS hl => W.vret hx hb hr (fun t ht hW => ⟨⟨none, ws, rfl, h, by rw [ht]; exact hP, hD, va_K.moved hW.alike hK⟩, hS.F ht⟩) hS.2.2 d hlk
theorem zd_less (E : zd_E Z l D cl tys cc nL own Ts R ret post) {L' : List (Option Value)} (hl0 : zd_le L' L) (k : Z ws L' pc st) : Z ws L pc st := by
  obtain ⟨p, e, s, m, args, below, meth, c, A, hx, hb, hml, hown, hts, hK, hr, hlk, rfl⟩ := E
  exact fun H locs ls hP hD hS hl => k H locs ls hP hD hS (hl.less hl0)
theorem zd_mmax (E : zd_E Z l D cl tys cc nL own Ts R ret post) {index : Nat} {x y : Int32} (d : decode cc pc = .ok (.invokestatic index, 3)) (h1 : Cond.methodLink own index Lib.Math.max.name ∈ Ts) (h2 : Cond.static Lib.Math.max.name ∈ Ts) (h3 : Cond.initialized "java/lang/Math" ∈ Ts) (h4 : Cond.code Lib.Math.max.name Lib.Math.max.code 2 (some .int) ∈ Ts) (hR : 1 ≤ R.frames ∧ 21 ≤ R.locals) (hW : (st.map fun v => v.category).sum ≤ 8) (k : Z ws L (pc + 3) (.int (if x < y then y else x) :: st)) : Z ws L pc (.int y :: .int x :: st) := by
  obtain ⟨p, e, s, m, args, below, meth, c, A, hx, hb, hml, hown, hts, hK, hr, hlk, rfl⟩ := E
  exact fun H locs ls hP hD hS hl => va_mmax hx hb (hml.trans hl.1.symm) hown (hts _ h1) (hts _ h2) (hts _ h3) (hts _ h4) hR.1 (by omega) (Nat.zero_le _) (Nat.zero_le _) d (k H locs ls hP hD hS hl)
theorem zd_mmin (E : zd_E Z l D cl tys cc nL own Ts R ret post) {index : Nat} {x y : Int32} (d : decode cc pc = .ok (.invokestatic index, 3)) (h1 : Cond.methodLink own index Lib.Math.min.name ∈ Ts) (h2 : Cond.static Lib.Math.min.name ∈ Ts) (h3 : Cond.initialized "java/lang/Math" ∈ Ts) (h4 : Cond.code Lib.Math.min.name Lib.Math.min.code 2 (some .int) ∈ Ts) (hR : 1 ≤ R.frames ∧ 21 ≤ R.locals) (hW : (st.map fun v => v.category).sum ≤ 8) (k : Z ws L (pc + 3) (.int (if y < x then y else x) :: st)) : Z ws L pc (.int y :: .int x :: st) := by
  obtain ⟨p, e, s, m, args, below, meth, c, A, hx, hb, hml, hown, hts, hK, hr, hlk, rfl⟩ := E
  exact fun H locs ls hP hD hS hl => va_mmin hx hb (hml.trans hl.1.symm) hown (hts _ h1) (hts _ h2) (hts _ h3) (hts _ h4) hR.1 (by omega) (Nat.zero_le _) (Nat.zero_le _) d (k H locs ls hP hD hS hl)
theorem zd_run {p : Program} {e : Env} {s : State} {m : MethodId} {args : Array Value} {below : List Frame} {meth : Method} {c : Code} {A : Nat → Prop} {H : Heap} {locs : List Loc} {ls : Array Slot} {st0 : List Value} {a : Array Value} {post1 : Option Value → va_W → Prop} {Q : State → Prop}
    (hr : va_Run p l e R s m args below meth c H locs 0 0 0 0 (F0 m pc ls st0) st (zd_Q D cl tys (zd_A ws) post1 a) (zd_A ws)) (hD : va_D A ws) (hS : va_S A s.heap H locs)
    (kk : ∀ (v : Option Value) (ws1 : va_W) (H1 : Heap) (locs1 : List Loc), post1 v ws1 → va_P D cl ws1 H1 → va_D A ws1 → va_S A s.heap H1 locs1 → W p l e R s m args below meth c H1 locs1 0 0 Q (F0 m (pc + 3) ls (v.toList ++ st))) : W p l e R s m args below meth c H locs 0 0 Q (F0 m pc ls st0) := by
  intro T hT X
  obtain ⟨v, st₀, t, T', L1, h0, X', hL, e1, e2, ⟨⟨v1, ws1, hv, hp, hPw, hDw, hKw⟩, hz, hk⟩, go⟩ := hr T hT X
  cases hv
  rw [h0] at hz hk
  have hAA : ∀ q, zd_A ws q → A q := fun q h => by
    obtain ⟨k, e, hk⟩ := h
    exact hD.2 k _ hk
  obtain ⟨t2, a1, b1⟩ := kk v ws1 T'.heap (locs ++ L1) hp (by rw [e1]; exact hPw) (hDw.weaken (fun k q _ hq => hAA _ hq))
    ⟨Nat.le_trans hS.1 (by rw [e1]; exact hz), fun q h1 h2 => by rw [e1, hk q (Nat.lt_of_lt_of_le h1 hS.1) (fun z => h2 (hAA q z))]; exact hS.2.1 q h1 h2, fun q hq => by
      rcases List.mem_append.mp hq with h | h
      · exact hS.2.2 q h
      · exact hAA _ (hL q h)⟩ T' rfl X'
  exact ⟨t2, go t2 a1, b1⟩
theorem zd_blind {cl : List vw_C} {D : va_G} {tys : List (ClassId × FieldType)} {av : List Value} {ws : va_W} {Ts : List Cond} : FrameBlind (va_Pc av (fun U => va_P D cl ws U.heap ∧ va_K D cl tys U ∧ va_D (fun _ => True) ws ∧ zd_N Ts U)) := fun a U g mk q => by
  obtain ⟨q0, qP, qK, qD, qN⟩ := q
  exact ⟨q0, qP, va_K.moved (u := U) (U := U.calling g mk a) (Vm.Alike.refl U.vm) qK, qD, zd_N.same (s := U) (U := U.calling g mk a) rfl qN⟩
theorem zd_at {s : State} {H : Heap} {cl : List vw_C} {D : va_G} {tys : List (ClassId × FieldType)} {av : List Value} {ws : va_W} {A : Nat → Prop} {args : Array Value} {Ts : List Cond} (hts : ∀ w ∈ Ts, w.before args s = true) (hP : va_P D cl ws H) (hK : va_K D cl tys s) (hD : va_D A ws) : ∀ U : State, U.heap = H → s.WarmedH U.vm → va_Pc av (fun U => va_P D cl ws U.heap ∧ va_K D cl tys U ∧ va_D (fun _ => True) ws ∧ zd_N Ts U) av.toArray U := fun U hU hW =>
  ⟨rfl, by rw [hU]; exact hP, va_K.moved hW.alike hK, hD.weaken (fun _ _ _ _ => trivial), zd_N.warm hW (fun w hw hn => zd_nof hn (hts w hw))⟩
theorem zd_good {Ts : List Cond} {y : MethodName} {bytes : ByteArray} {maxL : Nat} {r : Option FieldType} (h : Cond.code y bytes maxL r ∈ Ts) : GoodIn Ts (zd_wy y bytes maxL r Ts) := by
  intro w hw
  rcases List.mem_cons.mp hw with rfl | hw
  · exact ⟨h, good_of_word rfl⟩
  · obtain ⟨h1, h2⟩ := List.mem_filter.mp hw
    exact ⟨h1, good_of_word h2⟩
theorem zd_callS {dd : Nat} (E : zd_E Z l D cl tys cc nL own Ts (zd_rm dd) ret post) {index maxL n da : Nat} {y : MethodName} {bytes : ByteArray} {r1 : Option FieldType} {av st0 : List Value} {post1 : Option Value → va_W → Prop} (d : decode cc pc = .ok (.invokestatic index, 3)) (F : zd_C Ts own index y bytes maxL r1 n) (hst : st0 = av.reverse ++ st) (hstat : Cond.static y ∈ Ts) (C : zd_Ct l D cl tys Ts y bytes maxL r1 (zd_rm da) av ws post1) (hd : da + 1 ≤ dd) (hn : av.length = n) (hW : (st.map fun v => v.category).sum ≤ 8) (kk : ∀ (v : Option Value) (ws1 : va_W), post1 v ws1 → Z ws1 L (pc + 3) (v.toList ++ st)) : Z ws L pc st0 := by
  obtain ⟨p, e, s, m, args, below, meth, c, A, hx, hb, hml, hown, hts, hK, hr, hlk, rfl⟩ := E
  obtain ⟨hcode, hini, hmh, hpar, hmx, hlink | ⟨host, hlink⟩⟩ := F
  · exact fun H locs ls hP hD hS hl => zd_run (va_runS (As := av) (rest := st) ⟨hx, hb, hml, hown, hts⟩ C ⟨callB_of n hts (zd_good hcode) rfl rfl rfl (hts _ hini) (hts _ hlink) ⟨hmh.1, hmh.2, hpar⟩ (show (zd_rm da).frames + 1 ≤ (zd_rm dd).frames ∧ 8 + (maxL + 11) + (zd_rm da).locals ≤ (zd_rm dd).locals from ⟨hd, by show 8 + (maxL + 11) + 40 * da ≤ 40 * dd; omega⟩), hts _ hstat⟩ ⟨zd_blind, zd_at hts hP hK hD⟩ rfl hn hl.1 hst (lv_room hW) d ⟨Nat.zero_le _, Nat.zero_le _⟩) hD hS (fun v ws1 H1 locs1 hp hP1 hD1 hS1 => kk v ws1 hp H1 locs1 ls hP1 hD1 hS1 hl)
  · exact fun H locs ls hP hD hS hl => zd_run (va_runSN (As := av) (rest := st) ⟨hx, hb, hml, hown, hts⟩ C ⟨va_cnB n hts (zd_good hcode) rfl rfl rfl (va_Nw.of rfl (hts _ hlink)) (hts _ hini) ⟨hmh.1, hmh.2, hpar⟩ (show (zd_rm da).frames + 1 ≤ (zd_rm dd).frames ∧ 8 + (maxL + 11) + (zd_rm da).locals ≤ (zd_rm dd).locals from ⟨hd, by show 8 + (maxL + 11) + 40 * da ≤ 40 * dd; omega⟩), hts _ hstat, trivial⟩ ⟨zd_blind, zd_at hts hP hK hD⟩ rfl hn hl.1 hst (lv_room hW) d ⟨Nat.zero_le _, Nat.zero_le _⟩) hD hS (fun v ws1 H1 locs1 hp hP1 hD1 hS1 => kk v ws1 hp H1 locs1 ls hP1 hD1 hS1 hl)
theorem zd_callV {dd : Nat} (E : zd_E Z l D cl tys cc nL own Ts (zd_rm dd) ret post) {ci b : Nat} {T1 : u_T} {N1 : Nat} {fs : List Value} {index maxL n da : Nat} {y : MethodName} {bytes : ByteArray} {r1 : Option FieldType} {av st0 : List Value} {post1 : Option Value → va_W → Prop} (d : decode cc pc = .ok (.invokevirtual index, 3)) (F : zd_C Ts own index y bytes maxL r1 n) (hst : st0 = av.reverse ++ .ref b :: st) (hinst : Cond.instanceMethod y ∈ Ts) (hsel : Cond.selects y.cls y y ∈ Ts) (j : Nat) (he : ws[j]? = some (b, .inr (ci, fs))) (hc : cl[ci]? = some (y.cls, T1, N1)) (C : zd_Ct l D cl tys Ts y bytes maxL r1 (zd_rm da) (.ref b :: av) ws post1) (hd : da + 1 ≤ dd) (hn : av.length = n) (hW : (st.map fun v => v.category).sum ≤ 8) (kk : ∀ (v : Option Value) (ws1 : va_W), post1 v ws1 → Z ws1 L (pc + 3) (v.toList ++ st)) : Z ws L pc st0 := by
  obtain ⟨p, e, s, m, args, below, meth, c, A, hx, hb, hml, hown, hts, hK, hr, hlk, rfl⟩ := E
  obtain ⟨hcode, hini, hmh, hpar, hmx, hlink | ⟨host, hlink⟩⟩ := F
  · exact fun H locs ls hP hD hS hl => zd_run (va_runV (As := av) (rest := st) (C := y.cls) ⟨hx, hb, hml, hown, hts⟩ C ⟨callB_of n hts (zd_good hcode) rfl rfl rfl (hts _ hini) (hts _ hlink) ⟨hmh.1, hmh.2, hpar⟩ (show (zd_rm da).frames + 1 ≤ (zd_rm dd).frames ∧ 8 + (maxL + 11) + (zd_rm da).locals ≤ (zd_rm dd).locals from ⟨hd, by show 8 + (maxL + 11) + 40 * da ≤ 40 * dd; omega⟩), hts _ hinst, hts _ hsel⟩ ⟨zd_blind, va_recv hK hP hc he, zd_at hts hP hK hD⟩ rfl hn hl.1 hst (lv_room hW) d ⟨Nat.zero_le _, Nat.zero_le _⟩) hD hS (fun v ws1 H1 locs1 hp hP1 hD1 hS1 => kk v ws1 hp H1 locs1 ls hP1 hD1 hS1 hl)
  · exact fun H locs ls hP hD hS hl => zd_run (va_runVN (As := av) (rest := st) (C := y.cls) ⟨hx, hb, hml, hown, hts⟩ C ⟨va_cnB n hts (zd_good hcode) rfl rfl rfl (va_Nw.of rfl (hts _ hlink)) (hts _ hini) ⟨hmh.1, hmh.2, hpar⟩ (show (zd_rm da).frames + 1 ≤ (zd_rm dd).frames ∧ 8 + (maxL + 11) + (zd_rm da).locals ≤ (zd_rm dd).locals from ⟨hd, by show 8 + (maxL + 11) + 40 * da ≤ 40 * dd; omega⟩), hts _ hinst, hts _ hsel⟩ ⟨zd_blind, va_recv hK hP hc he, zd_at hts hP hK hD⟩ rfl hn hl.1 hst (lv_room hW) d ⟨Nat.zero_le _, Nat.zero_le _⟩) hD hS (fun v ws1 H1 locs1 hp hP1 hD1 hS1 => kk v ws1 hp H1 locs1 ls hP1 hD1 hS1 hl)
theorem zd_nc_eq (E : zd_E Z l D cl tys cc nL own Ts R ret post) {a b : Nat} {off : Int} (tgt : Nat) (d : decode cc pc = .ok (.if_icmp .eq off, 3)) (ht : (pc : Int) + off = (tgt : Int)) (ha : a < 2 ^ 31) (hb : b < 2 ^ 31) (kt : a = b → Z ws L tgt st) (kf : a ≠ b → Z ws L (pc + 3) st) : Z ws L pc (.int (nI b) :: .int (nI a) :: st) :=
  zd_ic_eq E tgt d ht (fun h => kt ((nI_eq ha hb).mp h)) (fun h => kf (fun z => h ((nI_eq ha hb).mpr z)))
theorem zd_nc_ne (E : zd_E Z l D cl tys cc nL own Ts R ret post) {a b : Nat} {off : Int} (tgt : Nat) (d : decode cc pc = .ok (.if_icmp .ne off, 3)) (ht : (pc : Int) + off = (tgt : Int)) (ha : a < 2 ^ 31) (hb : b < 2 ^ 31) (kt : a ≠ b → Z ws L tgt st) (kf : a = b → Z ws L (pc + 3) st) : Z ws L pc (.int (nI b) :: .int (nI a) :: st) :=
  zd_ic_ne E tgt d ht (fun h => kt (fun z => h ((nI_eq ha hb).mpr z))) (fun h => kf (Classical.byContradiction fun z => h (fun y => z ((nI_eq ha hb).mp y))))
theorem zd_nc_lt (E : zd_E Z l D cl tys cc nL own Ts R ret post) {a b : Nat} {off : Int} (tgt : Nat) (d : decode cc pc = .ok (.if_icmp .lt off, 3)) (ht : (pc : Int) + off = (tgt : Int)) (ha : a < 2 ^ 31) (hb : b < 2 ^ 31) (kt : a < b → Z ws L tgt st) (kf : b ≤ a → Z ws L (pc + 3) st) : Z ws L pc (.int (nI b) :: .int (nI a) :: st) :=
  zd_ic_lt E tgt d ht (fun h => kt ((nI_ltI ha hb).mp h)) (fun h => kf (Nat.not_lt.mp (fun z => h ((nI_ltI ha hb).mpr z))))
theorem zd_nc_ge (E : zd_E Z l D cl tys cc nL own Ts R ret post) {a b : Nat} {off : Int} (tgt : Nat) (d : decode cc pc = .ok (.if_icmp .ge off, 3)) (ht : (pc : Int) + off = (tgt : Int)) (ha : a < 2 ^ 31) (hb : b < 2 ^ 31) (kt : b ≤ a → Z ws L tgt st) (kf : a < b → Z ws L (pc + 3) st) : Z ws L pc (.int (nI b) :: .int (nI a) :: st) :=
  zd_ic_ge E tgt d ht (fun h => kt ((nI_leI hb ha).mp h)) (fun h => kf (Nat.not_le.mp (fun z => h ((nI_leI hb ha).mpr z))))
theorem zd_nc_gt (E : zd_E Z l D cl tys cc nL own Ts R ret post) {a b : Nat} {off : Int} (tgt : Nat) (d : decode cc pc = .ok (.if_icmp .gt off, 3)) (ht : (pc : Int) + off = (tgt : Int)) (ha : a < 2 ^ 31) (hb : b < 2 ^ 31) (kt : b < a → Z ws L tgt st) (kf : a ≤ b → Z ws L (pc + 3) st) : Z ws L pc (.int (nI b) :: .int (nI a) :: st) :=
  zd_ic_gt E tgt d ht (fun h => kt ((nI_ltI hb ha).mp h)) (fun h => kf (Nat.not_lt.mp (fun z => h ((nI_ltI hb ha).mpr z))))
theorem zd_nc_le (E : zd_E Z l D cl tys cc nL own Ts R ret post) {a b : Nat} {off : Int} (tgt : Nat) (d : decode cc pc = .ok (.if_icmp .le off, 3)) (ht : (pc : Int) + off = (tgt : Int)) (ha : a < 2 ^ 31) (hb : b < 2 ^ 31) (kt : a ≤ b → Z ws L tgt st) (kf : b < a → Z ws L (pc + 3) st) : Z ws L pc (.int (nI b) :: .int (nI a) :: st) :=
  zd_ic_le E tgt d ht (fun h => kt ((nI_leI ha hb).mp h)) (fun h => kf (Nat.not_le.mp (fun z => h ((nI_leI ha hb).mpr z))))
theorem zd_bf_eq (E : zd_E Z l D cl tys cc nL own Ts R ret post) {P : Prop} [Decidable P] {off : Int} (tgt : Nat) (d : decode cc pc = .ok (.ifCond .eq off, 3)) (ht : (pc : Int) + off = (tgt : Int)) (kt : ¬ P → Z ws L tgt st) (kf : P → Z ws L (pc + 3) st) : Z ws L pc (.int (nI (if P then 1 else 0)) :: st) := by
  refine zd_if_eq E tgt d ht (fun h => ?_) (fun h => ?_)
  · by_cases p : P
    · rw [if_pos p] at h; first | exact kt p | exact absurd h (by decide)
    · rw [if_neg p] at h; first | exact kt p | exact absurd h (by decide)
  · by_cases p : P
    · rw [if_pos p] at h; first | exact kf p | exact absurd h (by decide)
    · rw [if_neg p] at h; first | exact kf p | exact absurd h (by decide)
theorem zd_bf_ne (E : zd_E Z l D cl tys cc nL own Ts R ret post) {P : Prop} [Decidable P] {off : Int} (tgt : Nat) (d : decode cc pc = .ok (.ifCond .ne off, 3)) (ht : (pc : Int) + off = (tgt : Int)) (kt : P → Z ws L tgt st) (kf : ¬ P → Z ws L (pc + 3) st) : Z ws L pc (.int (nI (if P then 1 else 0)) :: st) := by
  refine zd_if_ne E tgt d ht (fun h => ?_) (fun h => ?_)
  · by_cases p : P
    · rw [if_pos p] at h; first | exact kt p | exact absurd h (by decide)
    · rw [if_neg p] at h; first | exact kt p | exact absurd h (by decide)
  · by_cases p : P
    · rw [if_pos p] at h; first | exact kf p | exact absurd h (by decide)
    · rw [if_neg p] at h; first | exact kf p | exact absurd h (by decide)
end ZD
end
section
/-! Names: classes, fields, methods, words. By names.py. -/
def gd_T : List Cond := lw_tbl.filter zd_ok
theorem gd_all : zd_G gd_T := fun w hw => by
  have h := (List.mem_filter.mp hw).2
  unfold zd_ok at h
  simpa using h
theorem gd_in {w : Cond} (i : Nat) (h : tables_1[i]? = some w) (g : zd_ok w = true) : w ∈ gd_T := List.mem_filter.mpr ⟨List.mem_append_right _ (List.mem_of_getElem? h), g⟩
theorem gd_in1 {w : Cond} (i : Nat) (h : tables_1_1[i]? = some w) (g : zd_ok w = true) : w ∈ gd_T := List.mem_filter.mpr ⟨List.mem_append_right _ (List.mem_append_left _ (List.mem_of_getElem? h)), g⟩
theorem gd_in2 {w : Cond} (i : Nat) (h : tables_1_2[i]? = some w) (g : zd_ok w = true) : w ∈ gd_T := List.mem_filter.mpr ⟨List.mem_append_right _ (List.mem_append_right _ (List.mem_append_left _ (List.mem_of_getElem? h))), g⟩
theorem gd_in3 {w : Cond} (i : Nat) (h : tables_1_3[i]? = some w) (g : zd_ok w = true) : w ∈ gd_T := List.mem_filter.mpr ⟨List.mem_append_right _ (List.mem_append_right _ (List.mem_append_right _ (List.mem_append_left _ (List.mem_of_getElem? h)))), g⟩
theorem gd_in4 {w : Cond} (i : Nat) (h : tables_1_4[i]? = some w) (g : zd_ok w = true) : w ∈ gd_T := List.mem_filter.mpr ⟨List.mem_append_right _ (List.mem_append_right _ (List.mem_append_right _ (List.mem_append_right _ (List.mem_of_getElem? h)))), g⟩
theorem gd_sel {y : MethodName} {n : Nat} (i : Nat) (h : lw_privs[i]? = some (y, n)) : Cond.selects y.cls y y ∈ gd_T := List.mem_filter.mpr ⟨List.mem_append_left _ (List.mem_map.mpr ⟨(y, n), List.mem_of_getElem? h, rfl⟩), rfl⟩
def R_P : String := "CutPlanner"
def F_P : u_T := fun k => match k with
  | 0 => ("CutPlanner", "task", "LCutPlanner$Task;", true)
  | 1 => ("CutPlanner", "search", "LCutPlanner$Search;", true)
  | 2 => ("CutPlanner", "best", "LCutPlanner$Row;", true)
  | 3 => ("CutPlanner", "drafted", "LCutPlanner$Row;", true)
  | 4 => ("CutPlanner", "levels", "LCutPlanner$Levels;", true)
  | 5 => ("CutPlanner", "cutting", "LCutPlanner$Cuts;", true)
  | _ => ("CutPlanner", "state", "I", false)
def ft_P : Nat → FieldType := fun k => match k with
  | 0 => .object "CutPlanner$Task"
  | 1 => .object "CutPlanner$Search"
  | 2 => .object "CutPlanner$Row"
  | 3 => .object "CutPlanner$Row"
  | 4 => .object "CutPlanner$Levels"
  | 5 => .object "CutPlanner$Cuts"
  | _ => .int
theorem n_P : ∀ a, a < 7 → ∀ b, b < 7 → a ≠ b → (F_P a).2.1 ≠ (F_P b).2.1 := by decide +kernel
theorem to_P : ∀ k, k < 7 → parseFieldDescriptor (F_P k).2.2.1 = some (ft_P k) := by decide +kernel
theorem wi_P : ∀ w ∈ u_ws R_P F_P 7, w ∈ gd_T := by
  intro w hw
  obtain ⟨i, hi, rfl⟩ := List.mem_map.mp hw
  have hi := List.mem_range.mp hi
  match i, hi with
  | 0, _ => exact gd_in1 163 (by decide +kernel) (by decide +kernel)
  | 1, _ => exact gd_in1 165 (by decide +kernel) (by decide +kernel)
  | 2, _ => exact gd_in1 167 (by decide +kernel) (by decide +kernel)
  | 3, _ => exact gd_in1 169 (by decide +kernel) (by decide +kernel)
  | 4, _ => exact gd_in1 171 (by decide +kernel) (by decide +kernel)
  | 5, _ => exact gd_in1 173 (by decide +kernel) (by decide +kernel)
  | 6, _ => exact gd_in1 175 (by decide +kernel) (by decide +kernel)
  | k + 7, h => omega
def R_T : String := "CutPlanner$Task"
def F_T : u_T := fun k => match k with
  | 0 => ("CutPlanner$Task", "costs", "[I", true)
  | 1 => ("CutPlanner$Task", "links", "[[I", true)
  | 2 => ("CutPlanner$Task", "facts", "I", false)
  | 3 => ("CutPlanner$Task", "actions", "I", false)
  | 4 => ("CutPlanner$Task", "first", "I", false)
  | _ => ("CutPlanner$Task", "goal", "I", false)
def ft_T : Nat → FieldType := fun k => match k with
  | 0 => .array .int
  | 1 => .array (.array .int)
  | 2 => .int
  | 3 => .int
  | 4 => .int
  | _ => .int
theorem n_T : ∀ a, a < 6 → ∀ b, b < 6 → a ≠ b → (F_T a).2.1 ≠ (F_T b).2.1 := by decide +kernel
theorem to_T : ∀ k, k < 6 → parseFieldDescriptor (F_T k).2.2.1 = some (ft_T k) := by decide +kernel
theorem wi_T : ∀ w ∈ u_ws R_T F_T 6, w ∈ gd_T := by
  intro w hw
  obtain ⟨i, hi, rfl⟩ := List.mem_map.mp hw
  have hi := List.mem_range.mp hi
  match i, hi with
  | 0, _ => exact gd_in1 53 (by decide +kernel) (by decide +kernel)
  | 1, _ => exact gd_in1 55 (by decide +kernel) (by decide +kernel)
  | 2, _ => exact gd_in1 57 (by decide +kernel) (by decide +kernel)
  | 3, _ => exact gd_in1 59 (by decide +kernel) (by decide +kernel)
  | 4, _ => exact gd_in1 61 (by decide +kernel) (by decide +kernel)
  | 5, _ => exact gd_in1 63 (by decide +kernel) (by decide +kernel)
  | k + 6, h => omega
def R_R : String := "CutPlanner$Row"
def F_R : u_T := fun k => match k with
  | 0 => ("CutPlanner$Row", "items", "[I", true)
  | _ => ("CutPlanner$Row", "size", "I", false)
def ft_R : Nat → FieldType := fun k => match k with
  | 0 => .array .int
  | _ => .int
theorem n_R : ∀ a, a < 2 → ∀ b, b < 2 → a ≠ b → (F_R a).2.1 ≠ (F_R b).2.1 := by decide +kernel
theorem to_R : ∀ k, k < 2 → parseFieldDescriptor (F_R k).2.2.1 = some (ft_R k) := by decide +kernel
theorem wi_R : ∀ w ∈ u_ws R_R F_R 2, w ∈ gd_T := by
  intro w hw
  obtain ⟨i, hi, rfl⟩ := List.mem_map.mp hw
  have hi := List.mem_range.mp hi
  match i, hi with
  | 0, _ => exact gd_in1 106 (by decide +kernel) (by decide +kernel)
  | 1, _ => exact gd_in1 108 (by decide +kernel) (by decide +kernel)
  | k + 2, h => omega
def R_S : String := "CutPlanner$Search"
def F_S : u_T := fun k => match k with
  | 0 => ("CutPlanner$Search", "task", "LCutPlanner$Task;", true)
  | 1 => ("CutPlanner$Search", "order", "[I", true)
  | 2 => ("CutPlanner$Search", "spent", "[I", true)
  | 3 => ("CutPlanner$Search", "onward", "[I", true)
  | 4 => ("CutPlanner$Search", "begins", "[I", true)
  | _ => ("CutPlanner$Search", "settled", "I", false)
def ft_S : Nat → FieldType := fun k => match k with
  | 0 => .object "CutPlanner$Task"
  | 1 => .array .int
  | 2 => .array .int
  | 3 => .array .int
  | 4 => .array .int
  | _ => .int
theorem n_S : ∀ a, a < 6 → ∀ b, b < 6 → a ≠ b → (F_S a).2.1 ≠ (F_S b).2.1 := by decide +kernel
theorem to_S : ∀ k, k < 6 → parseFieldDescriptor (F_S k).2.2.1 = some (ft_S k) := by decide +kernel
theorem wi_S : ∀ w ∈ u_ws R_S F_S 6, w ∈ gd_T := by
  intro w hw
  obtain ⟨i, hi, rfl⟩ := List.mem_map.mp hw
  have hi := List.mem_range.mp hi
  match i, hi with
  | 0, _ => exact gd_in1 83 (by decide +kernel) (by decide +kernel)
  | 1, _ => exact gd_in1 85 (by decide +kernel) (by decide +kernel)
  | 2, _ => exact gd_in1 87 (by decide +kernel) (by decide +kernel)
  | 3, _ => exact gd_in1 89 (by decide +kernel) (by decide +kernel)
  | 4, _ => exact gd_in1 91 (by decide +kernel) (by decide +kernel)
  | 5, _ => exact gd_in1 93 (by decide +kernel) (by decide +kernel)
  | k + 6, h => omega
def R_V : String := "CutPlanner$Levels"
def F_V : u_T := fun k => match k with
  | 0 => ("CutPlanner$Levels", "task", "LCutPlanner$Task;", true)
  | _ => ("CutPlanner$Levels", "heights", "[I", true)
def ft_V : Nat → FieldType := fun k => match k with
  | 0 => .object "CutPlanner$Task"
  | _ => .array .int
theorem n_V : ∀ a, a < 2 → ∀ b, b < 2 → a ≠ b → (F_V a).2.1 ≠ (F_V b).2.1 := by decide +kernel
theorem to_V : ∀ k, k < 2 → parseFieldDescriptor (F_V k).2.2.1 = some (ft_V k) := by decide +kernel
theorem wi_V : ∀ w ∈ u_ws R_V F_V 2, w ∈ gd_T := by
  intro w hw
  obtain ⟨i, hi, rfl⟩ := List.mem_map.mp hw
  have hi := List.mem_range.mp hi
  match i, hi with
  | 0, _ => exact gd_in1 120 (by decide +kernel) (by decide +kernel)
  | 1, _ => exact gd_in1 122 (by decide +kernel) (by decide +kernel)
  | k + 2, h => omega
def R_U : String := "CutPlanner$Cuts"
def F_U : u_T := fun k => match k with
  | 0 => ("CutPlanner$Cuts", "task", "LCutPlanner$Task;", true)
  | 1 => ("CutPlanner$Cuts", "levels", "LCutPlanner$Levels;", true)
  | 2 => ("CutPlanner$Cuts", "left", "[I", true)
  | 3 => ("CutPlanner$Cuts", "bases", "[I", true)
  | 4 => ("CutPlanner$Cuts", "found", "[I", true)
  | 5 => ("CutPlanner$Cuts", "count", "I", false)
  | _ => ("CutPlanner$Cuts", "total", "I", false)
def ft_U : Nat → FieldType := fun k => match k with
  | 0 => .object "CutPlanner$Task"
  | 1 => .object "CutPlanner$Levels"
  | 2 => .array .int
  | 3 => .array .int
  | 4 => .array .int
  | 5 => .int
  | _ => .int
theorem n_U : ∀ a, a < 7 → ∀ b, b < 7 → a ≠ b → (F_U a).2.1 ≠ (F_U b).2.1 := by decide +kernel
theorem to_U : ∀ k, k < 7 → parseFieldDescriptor (F_U k).2.2.1 = some (ft_U k) := by decide +kernel
theorem wi_U : ∀ w ∈ u_ws R_U F_U 7, w ∈ gd_T := by
  intro w hw
  obtain ⟨i, hi, rfl⟩ := List.mem_map.mp hw
  have hi := List.mem_range.mp hi
  match i, hi with
  | 0, _ => exact gd_in1 141 (by decide +kernel) (by decide +kernel)
  | 1, _ => exact gd_in1 143 (by decide +kernel) (by decide +kernel)
  | 2, _ => exact gd_in1 145 (by decide +kernel) (by decide +kernel)
  | 3, _ => exact gd_in1 147 (by decide +kernel) (by decide +kernel)
  | 4, _ => exact gd_in1 149 (by decide +kernel) (by decide +kernel)
  | 5, _ => exact gd_in1 151 (by decide +kernel) (by decide +kernel)
  | 6, _ => exact gd_in1 153 (by decide +kernel) (by decide +kernel)
  | k + 7, h => omega
def R_M : String := "CutPlannerModel"
def F_M : u_T := fun k => match k with
  | 0 => ("CutPlannerModel", "code", "I", false)
  | 1 => ("CutPlannerModel", "facts", "I", false)
  | 2 => ("CutPlannerModel", "first", "I", false)
  | 3 => ("CutPlannerModel", "goal", "I", false)
  | 4 => ("CutPlannerModel", "actions", "I", false)
  | 5 => ("CutPlannerModel", "costs", "[I", true)
  | 6 => ("CutPlannerModel", "needs", "[I", true)
  | 7 => ("CutPlannerModel", "adds", "[I", true)
  | 8 => ("CutPlannerModel", "drops", "[I", true)
  | 9 => ("CutPlannerModel", "now", "I", false)
  | 10 => ("CutPlannerModel", "planned", "I", false)
  | 11 => ("CutPlannerModel", "plan", "[I", true)
  | 12 => ("CutPlannerModel", "drafted", "I", false)
  | 13 => ("CutPlannerModel", "draft", "[I", true)
  | 14 => ("CutPlannerModel", "dear", "[I", true)
  | 15 => ("CutPlannerModel", "come", "[Z", true)
  | 16 => ("CutPlannerModel", "rates", "[I", true)
  | 17 => ("CutPlannerModel", "levels", "[I", true)
  | 18 => ("CutPlannerModel", "found", "I", false)
  | 19 => ("CutPlannerModel", "sets", "[I", true)
  | _ => ("CutPlannerModel", "price", "I", false)
def ft_M : Nat → FieldType := fun k => match k with
  | 0 => .int
  | 1 => .int
  | 2 => .int
  | 3 => .int
  | 4 => .int
  | 5 => .array .int
  | 6 => .array .int
  | 7 => .array .int
  | 8 => .array .int
  | 9 => .int
  | 10 => .int
  | 11 => .array .int
  | 12 => .int
  | 13 => .array .int
  | 14 => .array .int
  | 15 => .array .boolean
  | 16 => .array .int
  | 17 => .array .int
  | 18 => .int
  | 19 => .array .int
  | _ => .int
theorem n_M : ∀ a, a < 21 → ∀ b, b < 21 → a ≠ b → (F_M a).2.1 ≠ (F_M b).2.1 := by decide +kernel
theorem to_M : ∀ k, k < 21 → parseFieldDescriptor (F_M k).2.2.1 = some (ft_M k) := by decide +kernel
theorem wi_M : ∀ w ∈ u_ws R_M F_M 21, w ∈ gd_T := by
  intro w hw
  obtain ⟨i, hi, rfl⟩ := List.mem_map.mp hw
  have hi := List.mem_range.mp hi
  match i, hi with
  | 0, _ => exact gd_in3 105 (by decide +kernel) (by decide +kernel)
  | 1, _ => exact gd_in3 107 (by decide +kernel) (by decide +kernel)
  | 2, _ => exact gd_in3 109 (by decide +kernel) (by decide +kernel)
  | 3, _ => exact gd_in3 111 (by decide +kernel) (by decide +kernel)
  | 4, _ => exact gd_in3 113 (by decide +kernel) (by decide +kernel)
  | 5, _ => exact gd_in3 115 (by decide +kernel) (by decide +kernel)
  | 6, _ => exact gd_in3 117 (by decide +kernel) (by decide +kernel)
  | 7, _ => exact gd_in3 119 (by decide +kernel) (by decide +kernel)
  | 8, _ => exact gd_in3 121 (by decide +kernel) (by decide +kernel)
  | 9, _ => exact gd_in3 123 (by decide +kernel) (by decide +kernel)
  | 10, _ => exact gd_in3 125 (by decide +kernel) (by decide +kernel)
  | 11, _ => exact gd_in3 127 (by decide +kernel) (by decide +kernel)
  | 12, _ => exact gd_in3 129 (by decide +kernel) (by decide +kernel)
  | 13, _ => exact gd_in3 131 (by decide +kernel) (by decide +kernel)
  | 14, _ => exact gd_in3 133 (by decide +kernel) (by decide +kernel)
  | 15, _ => exact gd_in3 135 (by decide +kernel) (by decide +kernel)
  | 16, _ => exact gd_in3 137 (by decide +kernel) (by decide +kernel)
  | 17, _ => exact gd_in3 139 (by decide +kernel) (by decide +kernel)
  | 18, _ => exact gd_in3 141 (by decide +kernel) (by decide +kernel)
  | 19, _ => exact gd_in3 143 (by decide +kernel) (by decide +kernel)
  | 20, _ => exact gd_in3 145 (by decide +kernel) (by decide +kernel)
  | k + 21, h => omega
abbrev classes : List vw_C := [(R_P, F_P, 7), (R_T, F_T, 6), (R_R, F_R, 2), (R_S, F_S, 6), (R_V, F_V, 2), (R_U, F_U, 7), (R_M, F_M, 21)]
abbrev b_P_init : ByteArray := prog_1_method_1_code
def y_P_init : MethodName := ⟨"CutPlanner", "<init>", "()V"⟩
theorem wc_P_init : Cond.code y_P_init b_P_init 1 (none) ∈ gd_T := gd_in1 21 rfl rfl
abbrev b_P_fact : ByteArray := prog_1_method_2_code
def y_P_fact : MethodName := ⟨"CutPlanner", "fact", "(ZZ)I"⟩
theorem wc_P_fact : Cond.code y_P_fact b_P_fact 4 (some .int) ∈ gd_T := gd_in2 114 rfl rfl
abbrev b_P_action : ByteArray := prog_1_method_3_code
def y_P_action : MethodName := ⟨"CutPlanner", "action", "(I)I"⟩
theorem wc_P_action : Cond.code y_P_action b_P_action 3 (some .int) ∈ gd_T := gd_in2 198 rfl rfl
abbrev b_P_link : ByteArray := prog_1_method_4_code
def y_P_link : MethodName := ⟨"CutPlanner", "link", "(III)V"⟩
theorem wc_P_link : Cond.code y_P_link b_P_link 4 (none) ∈ gd_T := gd_in2 227 rfl rfl
abbrev b_P_reset : ByteArray := prog_1_method_5_code
def y_P_reset : MethodName := ⟨"CutPlanner", "reset", "()V"⟩
theorem wc_P_reset : Cond.code y_P_reset b_P_reset 1 (none) ∈ gd_T := gd_in1 181 rfl rfl
abbrev b_P_holds : ByteArray := prog_1_method_6_code
def y_P_holds : MethodName := ⟨"CutPlanner", "holds", "(I)Z"⟩
theorem wc_P_holds : Cond.code y_P_holds b_P_holds 2 (some .boolean) ∈ gd_T := gd_in3 22 rfl rfl
abbrev b_P_applicable : ByteArray := prog_1_method_7_code
def y_P_applicable : MethodName := ⟨"CutPlanner", "applicable", "(I)Z"⟩
theorem wc_P_applicable : Cond.code y_P_applicable b_P_applicable 2 (some .boolean) ∈ gd_T := gd_in3 29 rfl rfl
abbrev b_P_apply : ByteArray := prog_1_method_8_code
def y_P_apply : MethodName := ⟨"CutPlanner", "apply", "(I)Z"⟩
theorem wc_P_apply : Cond.code y_P_apply b_P_apply 2 (some .boolean) ∈ gd_T := gd_in3 36 rfl rfl
abbrev b_P_plan : ByteArray := prog_1_method_9_code
def y_P_plan : MethodName := ⟨"CutPlanner", "plan", "()I"⟩
theorem wc_P_plan : Cond.code y_P_plan b_P_plan 2 (some .int) ∈ gd_T := gd_in1 185 rfl rfl
abbrev b_P_length : ByteArray := prog_1_method_10_code
def y_P_length : MethodName := ⟨"CutPlanner", "length", "()I"⟩
theorem wc_P_length : Cond.code y_P_length b_P_length 1 (some .int) ∈ gd_T := gd_in2 4 rfl rfl
abbrev b_P_step : ByteArray := prog_1_method_11_code
def y_P_step : MethodName := ⟨"CutPlanner", "step", "(I)I"⟩
theorem wc_P_step : Cond.code y_P_step b_P_step 2 (some .int) ∈ gd_T := gd_in2 8 rfl rfl
abbrev b_P_states : ByteArray := prog_1_method_12_code
def y_P_states : MethodName := ⟨"CutPlanner", "states", "()I"⟩
theorem wc_P_states : Cond.code y_P_states b_P_states 1 (some .int) ∈ gd_T := gd_in2 12 rfl rfl
abbrev b_P_together : ByteArray := prog_1_method_13_code
def y_P_together : MethodName := ⟨"CutPlanner", "together", "(II)Z"⟩
theorem wc_P_together : Cond.code y_P_together b_P_together 3 (some .boolean) ∈ gd_T := gd_in3 44 rfl rfl
abbrev b_P_level : ByteArray := prog_1_method_14_code
def y_P_level : MethodName := ⟨"CutPlanner", "level", "(IZ)I"⟩
theorem wc_P_level : Cond.code y_P_level b_P_level 3 (some .int) ∈ gd_T := gd_in3 56 rfl rfl
abbrev b_P_bound : ByteArray := prog_1_method_15_code
def y_P_bound : MethodName := ⟨"CutPlanner", "bound", "(Z)I"⟩
theorem wc_P_bound : Cond.code y_P_bound b_P_bound 2 (some .int) ∈ gd_T := gd_in2 16 rfl rfl
abbrev b_P_cuts : ByteArray := prog_1_method_16_code
def y_P_cuts : MethodName := ⟨"CutPlanner", "cuts", "()I"⟩
theorem wc_P_cuts : Cond.code y_P_cuts b_P_cuts 1 (some .int) ∈ gd_T := gd_in2 47 rfl rfl
abbrev b_P_cut : ByteArray := prog_1_method_17_code
def y_P_cut : MethodName := ⟨"CutPlanner", "cut", "(I)I"⟩
theorem wc_P_cut : Cond.code y_P_cut b_P_cut 2 (some .int) ∈ gd_T := gd_in2 91 rfl rfl
abbrev b_P_landmark : ByteArray := prog_1_method_18_code
def y_P_landmark : MethodName := ⟨"CutPlanner", "landmark", "(I)Z"⟩
theorem wc_P_landmark : Cond.code y_P_landmark b_P_landmark 2 (some .boolean) ∈ gd_T := gd_in3 63 rfl rfl
abbrev b_P_draft : ByteArray := prog_1_method_19_code
def y_P_draft : MethodName := ⟨"CutPlanner", "draft", "(I)I"⟩
theorem wc_P_draft : Cond.code y_P_draft b_P_draft 2 (some .int) ∈ gd_T := gd_in3 75 rfl rfl
abbrev b_P_wipe : ByteArray := prog_1_method_20_code
def y_P_wipe : MethodName := ⟨"CutPlanner", "wipe", "()V"⟩
theorem wc_P_wipe : Cond.code y_P_wipe b_P_wipe 1 (none) ∈ gd_T := gd_in2 95 rfl rfl
abbrev b_P_check : ByteArray := prog_1_method_21_code
def y_P_check : MethodName := ⟨"CutPlanner", "check", "()I"⟩
theorem wc_P_check : Cond.code y_P_check b_P_check 4 (some .int) ∈ gd_T := gd_in2 99 rfl rfl
abbrev b_P_cost : ByteArray := prog_1_method_22_code
def y_P_cost : MethodName := ⟨"CutPlanner", "cost", "()I"⟩
theorem wc_P_cost : Cond.code y_P_cost b_P_cost 3 (some .int) ∈ gd_T := gd_in2 106 rfl rfl
abbrev b_P_startAnew : ByteArray := prog_1_method_23_code
def y_P_startAnew : MethodName := ⟨"CutPlanner", "startAnew", "()V"⟩
theorem wc_P_startAnew : Cond.code y_P_startAnew b_P_startAnew 1 (none) ∈ gd_T := gd_in2 190 rfl rfl
abbrev b_P_refuseUnknownFact : ByteArray := prog_1_method_24_code
def y_P_refuseUnknownFact : MethodName := ⟨"CutPlanner", "refuseUnknownFact", "(I)V"⟩
theorem wc_P_refuseUnknownFact : Cond.code y_P_refuseUnknownFact b_P_refuseUnknownFact 2 (none) ∈ gd_T := gd_in3 11 rfl rfl
abbrev b_P_refuseUnknownAction : ByteArray := prog_1_method_25_code
def y_P_refuseUnknownAction : MethodName := ⟨"CutPlanner", "refuseUnknownAction", "(I)V"⟩
theorem wc_P_refuseUnknownAction : Cond.code y_P_refuseUnknownAction b_P_refuseUnknownAction 2 (none) ∈ gd_T := gd_in2 231 rfl rfl
abbrev b_P_orNone : ByteArray := prog_1_method_26_code
def y_P_orNone : MethodName := ⟨"CutPlanner", "orNone", "(I)I"⟩
theorem wc_P_orNone : Cond.code y_P_orNone b_P_orNone 1 (some .int) ∈ gd_T := gd_in2 42 rfl rfl
abbrev b_P_has : ByteArray := prog_1_method_27_code
def y_P_has : MethodName := ⟨"CutPlanner", "has", "(II)Z"⟩
theorem wc_P_has : Cond.code y_P_has b_P_has 2 (some .boolean) ∈ gd_T := gd_in2 23 rfl rfl
abbrev b_P_hasAll : ByteArray := prog_1_method_28_code
def y_P_hasAll : MethodName := ⟨"CutPlanner", "hasAll", "(II)Z"⟩
theorem wc_P_hasAll : Cond.code y_P_hasAll b_P_hasAll 2 (some .boolean) ∈ gd_T := gd_in1 212 rfl rfl
abbrev b_M_init : ByteArray := prog_8_method_1_code
def y_M_init : MethodName := ⟨"CutPlannerModel", "<init>", "()V"⟩
theorem wc_M_init : Cond.code y_M_init b_M_init 1 (none) ∈ gd_T := gd_in3 82 rfl rfl
abbrev b_M_thrown : ByteArray := prog_8_method_2_code
def y_M_thrown : MethodName := ⟨"CutPlannerModel", "thrown", "()I"⟩
theorem wc_M_thrown : Cond.code y_M_thrown b_M_thrown 1 (some .int) ∈ gd_T := gd_in3 152 rfl rfl
abbrev b_M_noFact : ByteArray := prog_8_method_3_code
def y_M_noFact : MethodName := ⟨"CutPlannerModel", "noFact", "(I)Z"⟩
theorem wc_M_noFact : Cond.code y_M_noFact b_M_noFact 2 (some .boolean) ∈ gd_T := gd_in3 176 rfl rfl
abbrev b_M_noAction : ByteArray := prog_8_method_4_code
def y_M_noAction : MethodName := ⟨"CutPlannerModel", "noAction", "(I)Z"⟩
theorem wc_M_noAction : Cond.code y_M_noAction b_M_noAction 2 (some .boolean) ∈ gd_T := gd_in3 172 rfl rfl
abbrev b_M_changed : ByteArray := prog_8_method_5_code
def y_M_changed : MethodName := ⟨"CutPlannerModel", "changed", "()V"⟩
theorem wc_M_changed : Cond.code y_M_changed b_M_changed 1 (none) ∈ gd_T := gd_in3 160 rfl rfl
abbrev b_M_fact : ByteArray := prog_8_method_6_code
def y_M_fact : MethodName := ⟨"CutPlannerModel", "fact", "(ZZ)I"⟩
theorem wc_M_fact : Cond.code y_M_fact b_M_fact 4 (some .int) ∈ gd_T := gd_in3 156 rfl rfl
abbrev b_M_action : ByteArray := prog_8_method_7_code
def y_M_action : MethodName := ⟨"CutPlannerModel", "action", "(I)I"⟩
theorem wc_M_action : Cond.code y_M_action b_M_action 2 (some .int) ∈ gd_T := gd_in3 164 rfl rfl
abbrev b_M_link : ByteArray := prog_8_method_8_code
def y_M_link : MethodName := ⟨"CutPlannerModel", "link", "(III)V"⟩
theorem wc_M_link : Cond.code y_M_link b_M_link 6 (none) ∈ gd_T := gd_in3 168 rfl rfl
abbrev b_M_can : ByteArray := prog_8_method_9_code
def y_M_can : MethodName := ⟨"CutPlannerModel", "can", "(II)Z"⟩
theorem wc_M_can : Cond.code y_M_can b_M_can 3 (some .boolean) ∈ gd_T := gd_in3 192 rfl rfl
abbrev b_M_after : ByteArray := prog_8_method_10_code
def y_M_after : MethodName := ⟨"CutPlannerModel", "after", "(II)I"⟩
theorem wc_M_after : Cond.code y_M_after b_M_after 3 (some .int) ∈ gd_T := gd_in3 200 rfl rfl
abbrev b_M_isMet : ByteArray := prog_8_method_11_code
def y_M_isMet : MethodName := ⟨"CutPlannerModel", "isMet", "(I)Z"⟩
theorem wc_M_isMet : Cond.code y_M_isMet b_M_isMet 2 (some .boolean) ∈ gd_T := gd_in3 204 rfl rfl
abbrev b_M_reset : ByteArray := prog_8_method_12_code
def y_M_reset : MethodName := ⟨"CutPlannerModel", "reset", "()V"⟩
theorem wc_M_reset : Cond.code y_M_reset b_M_reset 1 (none) ∈ gd_T := gd_in3 180 rfl rfl
abbrev b_M_holds : ByteArray := prog_8_method_13_code
def y_M_holds : MethodName := ⟨"CutPlannerModel", "holds", "(I)Z"⟩
theorem wc_M_holds : Cond.code y_M_holds b_M_holds 2 (some .boolean) ∈ gd_T := gd_in3 184 rfl rfl
abbrev b_M_applicable : ByteArray := prog_8_method_14_code
def y_M_applicable : MethodName := ⟨"CutPlannerModel", "applicable", "(I)Z"⟩
theorem wc_M_applicable : Cond.code y_M_applicable b_M_applicable 2 (some .boolean) ∈ gd_T := gd_in3 188 rfl rfl
abbrev b_M_apply : ByteArray := prog_8_method_15_code
def y_M_apply : MethodName := ⟨"CutPlannerModel", "apply", "(I)Z"⟩
theorem wc_M_apply : Cond.code y_M_apply b_M_apply 2 (some .boolean) ∈ gd_T := gd_in3 196 rfl rfl
abbrev b_M_findCosts : ByteArray := prog_8_method_16_code
def y_M_findCosts : MethodName := ⟨"CutPlannerModel", "findCosts", "()V"⟩
theorem wc_M_findCosts : Cond.code y_M_findCosts b_M_findCosts 5 (none) ∈ gd_T := gd_in3 212 rfl rfl
abbrev b_M_bestAction : ByteArray := prog_8_method_17_code
def y_M_bestAction : MethodName := ⟨"CutPlannerModel", "bestAction", "(I)I"⟩
theorem wc_M_bestAction : Cond.code y_M_bestAction b_M_bestAction 3 (some .int) ∈ gd_T := gd_in3 217 rfl rfl
abbrev b_M_plan : ByteArray := prog_8_method_18_code
def y_M_plan : MethodName := ⟨"CutPlannerModel", "plan", "()I"⟩
theorem wc_M_plan : Cond.code y_M_plan b_M_plan 3 (some .int) ∈ gd_T := gd_in3 208 rfl rfl
abbrev b_M_length : ByteArray := prog_8_method_19_code
def y_M_length : MethodName := ⟨"CutPlannerModel", "length", "()I"⟩
theorem wc_M_length : Cond.code y_M_length b_M_length 1 (some .int) ∈ gd_T := gd_in3 221 rfl rfl
abbrev b_M_step : ByteArray := prog_8_method_20_code
def y_M_step : MethodName := ⟨"CutPlannerModel", "step", "(I)I"⟩
theorem wc_M_step : Cond.code y_M_step b_M_step 2 (some .int) ∈ gd_T := gd_in3 225 rfl rfl
abbrev b_M_comeTo : ByteArray := prog_8_method_21_code
def y_M_comeTo : MethodName := ⟨"CutPlannerModel", "comeTo", "()V"⟩
theorem wc_M_comeTo : Cond.code y_M_comeTo b_M_comeTo 5 (none) ∈ gd_T := gd_in3 233 rfl rfl
abbrev b_M_states : ByteArray := prog_8_method_22_code
def y_M_states : MethodName := ⟨"CutPlannerModel", "states", "()I"⟩
theorem wc_M_states : Cond.code y_M_states b_M_states 3 (some .int) ∈ gd_T := gd_in3 229 rfl rfl
abbrev b_M_together : ByteArray := prog_8_method_23_code
def y_M_together : MethodName := ⟨"CutPlannerModel", "together", "(II)Z"⟩
theorem wc_M_together : Cond.code y_M_together b_M_together 5 (some .boolean) ∈ gd_T := gd_in3 237 rfl rfl
abbrev b_M_over : ByteArray := prog_8_method_24_code
def y_M_over : MethodName := ⟨"CutPlannerModel", "over", "(IZ)I"⟩
theorem wc_M_over : Cond.code y_M_over b_M_over 5 (some .int) ∈ gd_T := gd_in4 13 rfl rfl
abbrev b_M_findLevels : ByteArray := prog_8_method_25_code
def y_M_findLevels : MethodName := ⟨"CutPlannerModel", "findLevels", "(ZI)V"⟩
theorem wc_M_findLevels : Cond.code y_M_findLevels b_M_findLevels 7 (none) ∈ gd_T := gd_in4 9 rfl rfl
abbrev b_M_ownRates : ByteArray := prog_8_method_26_code
def y_M_ownRates : MethodName := ⟨"CutPlannerModel", "ownRates", "()V"⟩
theorem wc_M_ownRates : Cond.code y_M_ownRates b_M_ownRates 2 (none) ∈ gd_T := gd_in4 5 rfl rfl
abbrev b_M_told : ByteArray := prog_8_method_27_code
def y_M_told : MethodName := ⟨"CutPlannerModel", "told", "(I)I"⟩
theorem wc_M_told : Cond.code y_M_told b_M_told 1 (some .int) ∈ gd_T := gd_in4 16 rfl rfl
abbrev b_M_level : ByteArray := prog_8_method_28_code
def y_M_level : MethodName := ⟨"CutPlannerModel", "level", "(IZ)I"⟩
theorem wc_M_level : Cond.code y_M_level b_M_level 3 (some .int) ∈ gd_T := gd_in4 1 rfl rfl
abbrev b_M_bound : ByteArray := prog_8_method_29_code
def y_M_bound : MethodName := ⟨"CutPlannerModel", "bound", "(Z)I"⟩
theorem wc_M_bound : Cond.code y_M_bound b_M_bound 2 (some .int) ∈ gd_T := gd_in4 20 rfl rfl
abbrev b_M_base : ByteArray := prog_8_method_30_code
def y_M_base : MethodName := ⟨"CutPlannerModel", "base", "(I)I"⟩
theorem wc_M_base : Cond.code y_M_base b_M_base 4 (some .int) ∈ gd_T := gd_in4 36 rfl rfl
abbrev b_M_zone : ByteArray := prog_8_method_31_code
def y_M_zone : MethodName := ⟨"CutPlannerModel", "zone", "()I"⟩
theorem wc_M_zone : Cond.code y_M_zone b_M_zone 5 (some .int) ∈ gd_T := gd_in4 32 rfl rfl
abbrev b_M_rest : ByteArray := prog_8_method_32_code
def y_M_rest : MethodName := ⟨"CutPlannerModel", "rest", "(I)I"⟩
theorem wc_M_rest : Cond.code y_M_rest b_M_rest 6 (some .int) ∈ gd_T := gd_in4 40 rfl rfl
abbrev b_M_actionsAcross : ByteArray := prog_8_method_33_code
def y_M_actionsAcross : MethodName := ⟨"CutPlannerModel", "actionsAcross", "(II)I"⟩
theorem wc_M_actionsAcross : Cond.code y_M_actionsAcross b_M_actionsAcross 6 (some .int) ∈ gd_T := gd_in4 44 rfl rfl
abbrev b_M_least : ByteArray := prog_8_method_34_code
def y_M_least : MethodName := ⟨"CutPlannerModel", "least", "(I)I"⟩
theorem wc_M_least : Cond.code y_M_least b_M_least 4 (some .int) ∈ gd_T := gd_in4 48 rfl rfl
abbrev b_M_cutAll : ByteArray := prog_8_method_35_code
def y_M_cutAll : MethodName := ⟨"CutPlannerModel", "cutAll", "()V"⟩
theorem wc_M_cutAll : Cond.code y_M_cutAll b_M_cutAll 6 (none) ∈ gd_T := gd_in4 28 rfl rfl
abbrev b_M_cuts : ByteArray := prog_8_method_36_code
def y_M_cuts : MethodName := ⟨"CutPlannerModel", "cuts", "()I"⟩
theorem wc_M_cuts : Cond.code y_M_cuts b_M_cuts 1 (some .int) ∈ gd_T := gd_in4 24 rfl rfl
abbrev b_M_cut : ByteArray := prog_8_method_37_code
def y_M_cut : MethodName := ⟨"CutPlannerModel", "cut", "(I)I"⟩
theorem wc_M_cut : Cond.code y_M_cut b_M_cut 2 (some .int) ∈ gd_T := gd_in4 52 rfl rfl
abbrev b_M_landmark : ByteArray := prog_8_method_38_code
def y_M_landmark : MethodName := ⟨"CutPlannerModel", "landmark", "(I)Z"⟩
theorem wc_M_landmark : Cond.code y_M_landmark b_M_landmark 2 (some .boolean) ∈ gd_T := gd_in4 56 rfl rfl
abbrev b_M_draft : ByteArray := prog_8_method_39_code
def y_M_draft : MethodName := ⟨"CutPlannerModel", "draft", "(I)I"⟩
theorem wc_M_draft : Cond.code y_M_draft b_M_draft 2 (some .int) ∈ gd_T := gd_in4 60 rfl rfl
abbrev b_M_wipe : ByteArray := prog_8_method_40_code
def y_M_wipe : MethodName := ⟨"CutPlannerModel", "wipe", "()V"⟩
theorem wc_M_wipe : Cond.code y_M_wipe b_M_wipe 1 (none) ∈ gd_T := gd_in4 64 rfl rfl
abbrev b_M_check : ByteArray := prog_8_method_41_code
def y_M_check : MethodName := ⟨"CutPlannerModel", "check", "()I"⟩
theorem wc_M_check : Cond.code y_M_check b_M_check 3 (some .int) ∈ gd_T := gd_in4 68 rfl rfl
abbrev b_M_cost : ByteArray := prog_8_method_42_code
def y_M_cost : MethodName := ⟨"CutPlannerModel", "cost", "()I"⟩
theorem wc_M_cost : Cond.code y_M_cost b_M_cost 3 (some .int) ∈ gd_T := gd_in4 72 rfl rfl
abbrev b_U_init : ByteArray := prog_2_method_1_code
def y_U_init : MethodName := ⟨"CutPlanner$Cuts", "<init>", "(LCutPlanner$Task;LCutPlanner$Levels;)V"⟩
theorem wc_U_init : Cond.code y_U_init b_U_init 3 (none) ∈ gd_T := gd_in1 129 rfl rfl
abbrev b_U_collect : ByteArray := prog_2_method_2_code
def y_U_collect : MethodName := ⟨"CutPlanner$Cuts", "collect", "(I)V"⟩
theorem wc_U_collect : Cond.code y_U_collect b_U_collect 4 (none) ∈ gd_T := gd_in2 51 rfl rfl
abbrev b_U_goalHeight : ByteArray := prog_2_method_3_code
def y_U_goalHeight : MethodName := ⟨"CutPlanner$Cuts", "goalHeight", "(I)I"⟩
theorem wc_U_goalHeight : Cond.code y_U_goalHeight b_U_goalHeight 2 (some .int) ∈ gd_T := gd_in2 58 rfl rfl
abbrev b_U_nextCut : ByteArray := prog_2_method_4_code
def y_U_nextCut : MethodName := ⟨"CutPlanner$Cuts", "nextCut", "(I)I"⟩
theorem wc_U_nextCut : Cond.code y_U_nextCut b_U_nextCut 6 (some .int) ∈ gd_T := gd_in2 65 rfl rfl
abbrev b_U_zoneBefore : ByteArray := prog_2_method_5_code
def y_U_zoneBefore : MethodName := ⟨"CutPlanner$Cuts", "zoneBefore", "(I)I"⟩
theorem wc_U_zoneBefore : Cond.code y_U_zoneBefore b_U_zoneBefore 7 (some .int) ∈ gd_T := gd_in2 73 rfl rfl
abbrev b_U_restBehind : ByteArray := prog_2_method_6_code
def y_U_restBehind : MethodName := ⟨"CutPlanner$Cuts", "restBehind", "(II)I"⟩
theorem wc_U_restBehind : Cond.code y_U_restBehind b_U_restBehind 7 (some .int) ∈ gd_T := gd_in2 77 rfl rfl
abbrev b_U_isBasedIn : ByteArray := prog_2_method_7_code
def y_U_isBasedIn : MethodName := ⟨"CutPlanner$Cuts", "isBasedIn", "(II)Z"⟩
theorem wc_U_isBasedIn : Cond.code y_U_isBasedIn b_U_isBasedIn 3 (some .boolean) ∈ gd_T := gd_in2 81 rfl rfl
abbrev b_U_pay : ByteArray := prog_2_method_8_code
def y_U_pay : MethodName := ⟨"CutPlanner$Cuts", "pay", "(I)I"⟩
theorem wc_U_pay : Cond.code y_U_pay b_U_pay 4 (some .int) ∈ gd_T := gd_in2 86 rfl rfl
abbrev b_V_init : ByteArray := prog_3_method_1_code
def y_V_init : MethodName := ⟨"CutPlanner$Levels", "<init>", "(LCutPlanner$Task;)V"⟩
theorem wc_V_init : Cond.code y_V_init b_V_init 2 (none) ∈ gd_T := gd_in1 115 rfl rfl
abbrev b_V_measure : ByteArray := prog_3_method_2_code
def y_V_measure : MethodName := ⟨"CutPlanner$Levels", "measure", "(I[IZI)V"⟩
theorem wc_V_measure : Cond.code y_V_measure b_V_measure 9 (none) ∈ gd_T := gd_in2 20 rfl rfl
abbrev b_V_joined : ByteArray := prog_3_method_3_code
def y_V_joined : MethodName := ⟨"CutPlanner$Levels", "joined", "(IZ)I"⟩
theorem wc_V_joined : Cond.code y_V_joined b_V_joined 5 (some .int) ∈ gd_T := gd_in2 28 rfl rfl
abbrev b_V_baseOf : ByteArray := prog_3_method_4_code
def y_V_baseOf : MethodName := ⟨"CutPlanner$Levels", "baseOf", "(I)I"⟩
theorem wc_V_baseOf : Cond.code y_V_baseOf b_V_baseOf 5 (some .int) ∈ gd_T := gd_in2 69 rfl rfl
abbrev b_V_lower : ByteArray := prog_3_method_5_code
def y_V_lower : MethodName := ⟨"CutPlanner$Levels", "lower", "(II)Z"⟩
theorem wc_V_lower : Cond.code y_V_lower b_V_lower 5 (some .boolean) ∈ gd_T := gd_in2 38 rfl rfl
abbrev b_R_init : ByteArray := prog_4_method_1_code
def y_R_init : MethodName := ⟨"CutPlanner$Row", "<init>", "(I)V"⟩
theorem wc_R_init : Cond.code y_R_init b_R_init 2 (none) ∈ gd_T := gd_in1 100 rfl rfl
abbrev b_R_empty : ByteArray := prog_4_method_2_code
def y_R_empty : MethodName := ⟨"CutPlanner$Row", "empty", "()V"⟩
theorem wc_R_empty : Cond.code y_R_empty b_R_empty 1 (none) ∈ gd_T := gd_in1 220 rfl rfl
abbrev b_R_append : ByteArray := prog_4_method_3_code
def y_R_append : MethodName := ⟨"CutPlanner$Row", "append", "(I)V"⟩
theorem wc_R_append : Cond.code y_R_append b_R_append 2 (none) ∈ gd_T := gd_in2 0 rfl rfl
abbrev b_S_init : ByteArray := prog_5_method_1_code
def y_S_init : MethodName := ⟨"CutPlanner$Search", "<init>", "(LCutPlanner$Task;)V"⟩
theorem wc_S_init : Cond.code y_S_init b_S_init 2 (none) ∈ gd_T := gd_in1 71 rfl rfl
abbrev b_S_explore : ByteArray := prog_5_method_2_code
def y_S_explore : MethodName := ⟨"CutPlanner$Search", "explore", "(I)V"⟩
theorem wc_S_explore : Cond.code y_S_explore b_S_explore 5 (none) ∈ gd_T := gd_in1 189 rfl rfl
abbrev b_S_cameTo : ByteArray := prog_5_method_3_code
def y_S_cameTo : MethodName := ⟨"CutPlanner$Search", "cameTo", "(I)Z"⟩
theorem wc_S_cameTo : Cond.code y_S_cameTo b_S_cameTo 3 (some .boolean) ∈ gd_T := gd_in3 48 rfl rfl
abbrev b_S_leastToMet : ByteArray := prog_5_method_4_code
def y_S_leastToMet : MethodName := ⟨"CutPlanner$Search", "leastToMet", "()I"⟩
theorem wc_S_leastToMet : Cond.code y_S_leastToMet b_S_leastToMet 2 (some .int) ∈ gd_T := gd_in1 224 rfl rfl
abbrev b_S_writeBest : ByteArray := prog_5_method_5_code
def y_S_writeBest : MethodName := ⟨"CutPlanner$Search", "writeBest", "(IILCutPlanner$Row;)V"⟩
theorem wc_S_writeBest : Cond.code y_S_writeBest b_S_writeBest 7 (none) ∈ gd_T := gd_in1 232 rfl rfl
abbrev b_S_leastOnward : ByteArray := prog_5_method_6_code
def y_S_leastOnward : MethodName := ⟨"CutPlanner$Search", "leastOnward", "(I)I"⟩
theorem wc_S_leastOnward : Cond.code y_S_leastOnward b_S_leastOnward 4 (some .int) ∈ gd_T := gd_in1 236 rfl rfl
abbrev b_S_forget : ByteArray := prog_5_method_7_code
def y_S_forget : MethodName := ⟨"CutPlanner$Search", "forget", "()V"⟩
theorem wc_S_forget : Cond.code y_S_forget b_S_forget 2 (none) ∈ gd_T := gd_in1 193 rfl rfl
abbrev b_S_lastSpent : ByteArray := prog_5_method_8_code
def y_S_lastSpent : MethodName := ⟨"CutPlanner$Search", "lastSpent", "()I"⟩
theorem wc_S_lastSpent : Cond.code y_S_lastSpent b_S_lastSpent 1 (some .int) ∈ gd_T := gd_in1 201 rfl rfl
abbrev b_S_spread : ByteArray := prog_5_method_9_code
def y_S_spread : MethodName := ⟨"CutPlanner$Search", "spread", "(III)V"⟩
theorem wc_S_spread : Cond.code y_S_spread b_S_spread 6 (none) ∈ gd_T := gd_in1 205 rfl rfl
abbrev b_S_settle : ByteArray := prog_5_method_10_code
def y_S_settle : MethodName := ⟨"CutPlanner$Search", "settle", "(II)V"⟩
theorem wc_S_settle : Cond.code y_S_settle b_S_settle 3 (none) ∈ gd_T := gd_in1 197 rfl rfl
abbrev b_T_init : ByteArray := prog_6_method_1_code
def y_T_init : MethodName := ⟨"CutPlanner$Task", "<init>", "()V"⟩
theorem wc_T_init : Cond.code y_T_init b_T_init 1 (none) ∈ gd_T := gd_in1 29 rfl rfl
abbrev b_T_newFact : ByteArray := prog_6_method_2_code
def y_T_newFact : MethodName := ⟨"CutPlanner$Task", "newFact", "(ZZ)I"⟩
theorem wc_T_newFact : Cond.code y_T_newFact b_T_newFact 4 (some .int) ∈ gd_T := gd_in2 186 rfl rfl
abbrev b_T_newAction : ByteArray := prog_6_method_3_code
def y_T_newAction : MethodName := ⟨"CutPlanner$Task", "newAction", "(I)I"⟩
theorem wc_T_newAction : Cond.code y_T_newAction b_T_newAction 3 (some .int) ∈ gd_T := gd_in2 219 rfl rfl
abbrev b_T_allows : ByteArray := prog_6_method_4_code
def y_T_allows : MethodName := ⟨"CutPlanner$Task", "allows", "(II)Z"⟩
theorem wc_T_allows : Cond.code y_T_allows b_T_allows 3 (some .boolean) ∈ gd_T := gd_in1 209 rfl rfl
abbrev b_T_after : ByteArray := prog_6_method_5_code
def y_T_after : MethodName := ⟨"CutPlanner$Task", "after", "(II)I"⟩
theorem wc_T_after : Cond.code y_T_after b_T_after 3 (some .int) ∈ gd_T := gd_in1 216 rfl rfl
abbrev b_T_isMet : ByteArray := prog_6_method_6_code
def y_T_isMet : MethodName := ⟨"CutPlanner$Task", "isMet", "(I)Z"⟩
theorem wc_T_isMet : Cond.code y_T_isMet b_T_isMet 2 (some .boolean) ∈ gd_T := gd_in1 228 rfl rfl
abbrev b_T_addersOf : ByteArray := prog_6_method_7_code
def y_T_addersOf : MethodName := ⟨"CutPlanner$Task", "addersOf", "(I)I"⟩
theorem wc_T_addersOf : Cond.code y_T_addersOf b_T_addersOf 4 (some .int) ∈ gd_T := gd_in3 67 rfl rfl
abbrev b_L_fact : ByteArray := method_3_code
def y_L_fact : MethodName := ⟨"CutPlannerLaw", "fact", "(LCutPlanner;ZZ[J)I"⟩
abbrev b_L_action : ByteArray := method_4_code
def y_L_action : MethodName := ⟨"CutPlannerLaw", "action", "(LCutPlanner;I[J)I"⟩
abbrev b_L_link : ByteArray := method_5_code
def y_L_link : MethodName := ⟨"CutPlannerLaw", "link", "(LCutPlanner;III)I"⟩
abbrev b_L_holds : ByteArray := method_6_code
def y_L_holds : MethodName := ⟨"CutPlannerLaw", "holds", "(LCutPlanner;I[J)I"⟩
abbrev b_L_applicable : ByteArray := method_7_code
def y_L_applicable : MethodName := ⟨"CutPlannerLaw", "applicable", "(LCutPlanner;I[J)I"⟩
abbrev b_L_apply : ByteArray := method_8_code
def y_L_apply : MethodName := ⟨"CutPlannerLaw", "apply", "(LCutPlanner;I[J)I"⟩
abbrev b_L_together : ByteArray := method_9_code
def y_L_together : MethodName := ⟨"CutPlannerLaw", "together", "(LCutPlanner;II[J)I"⟩
abbrev b_L_level : ByteArray := method_10_code
def y_L_level : MethodName := ⟨"CutPlannerLaw", "level", "(LCutPlanner;IZ[J)I"⟩
abbrev b_L_landmark : ByteArray := method_11_code
def y_L_landmark : MethodName := ⟨"CutPlannerLaw", "landmark", "(LCutPlanner;I[J)I"⟩
abbrev b_L_draft : ByteArray := method_12_code
def y_L_draft : MethodName := ⟨"CutPlannerLaw", "draft", "(LCutPlanner;I[J)I"⟩
end
section
theorem kc_P_11 : zd_C gd_T "CutPlanner" 11 y_T_init b_T_init 1 (none) 0 := ⟨wc_T_init, gd_in1 2 (by decide +kernel) (by decide +kernel), ⟨by decide, by decide⟩, by decide +kernel, by decide, Or.inr ⟨"CutPlanner", gd_in1 27 (by decide +kernel) (by decide +kernel)⟩⟩
theorem kf_P_12 : zd_F classes gd_T "CutPlanner" 12 0 0 := ⟨R_P, F_P, 7, rfl, wi_P, by decide, Or.inl (gd_in1 156 (by decide +kernel) (by decide +kernel))⟩
theorem kc_P_18 : zd_C gd_T "CutPlanner" 18 y_S_init b_S_init 2 (none) 1 := ⟨wc_S_init, gd_in1 3 (by decide +kernel) (by decide +kernel), ⟨by decide, by decide⟩, by decide +kernel, by decide, Or.inl (gd_in1 69 (by decide +kernel) (by decide +kernel))⟩
theorem kf_P_21 : zd_F classes gd_T "CutPlanner" 21 0 1 := ⟨R_P, F_P, 7, rfl, wi_P, by decide, Or.inl (gd_in1 157 (by decide +kernel) (by decide +kernel))⟩
theorem kc_P_27 : zd_C gd_T "CutPlanner" 27 y_R_init b_R_init 2 (none) 1 := ⟨wc_R_init, gd_in1 5 (by decide +kernel) (by decide +kernel), ⟨by decide, by decide⟩, by decide +kernel, by decide, Or.inl (gd_in1 98 (by decide +kernel) (by decide +kernel))⟩
theorem kf_P_30 : zd_F classes gd_T "CutPlanner" 30 0 2 := ⟨R_P, F_P, 7, rfl, wi_P, by decide, Or.inl (gd_in1 158 (by decide +kernel) (by decide +kernel))⟩
theorem kf_P_34 : zd_F classes gd_T "CutPlanner" 34 0 3 := ⟨R_P, F_P, 7, rfl, wi_P, by decide, Or.inl (gd_in1 159 (by decide +kernel) (by decide +kernel))⟩
theorem kc_P_39 : zd_C gd_T "CutPlanner" 39 y_V_init b_V_init 2 (none) 1 := ⟨wc_V_init, gd_in1 6 (by decide +kernel) (by decide +kernel), ⟨by decide, by decide⟩, by decide +kernel, by decide, Or.inl (gd_in1 113 (by decide +kernel) (by decide +kernel))⟩
theorem kf_P_40 : zd_F classes gd_T "CutPlanner" 40 0 4 := ⟨R_P, F_P, 7, rfl, wi_P, by decide, Or.inl (gd_in1 160 (by decide +kernel) (by decide +kernel))⟩
theorem kc_P_46 : zd_C gd_T "CutPlanner" 46 y_U_init b_U_init 3 (none) 2 := ⟨wc_U_init, gd_in1 7 (by decide +kernel) (by decide +kernel), ⟨by decide, by decide⟩, by decide +kernel, by decide, Or.inl (gd_in1 127 (by decide +kernel) (by decide +kernel))⟩
theorem kf_P_49 : zd_F classes gd_T "CutPlanner" 49 0 5 := ⟨R_P, F_P, 7, rfl, wi_P, by decide, Or.inl (gd_in1 161 (by decide +kernel) (by decide +kernel))⟩
theorem kf_P_53 : zd_F classes gd_T "CutPlanner" 53 0 6 := ⟨R_P, F_P, 7, rfl, wi_P, by decide, Or.inl (gd_in1 162 (by decide +kernel) (by decide +kernel))⟩
theorem kp_P_53 : zd_FP classes gd_T "CutPlanner" 53 0 6 := ⟨R_P, F_P, 7, ft_P, rfl, wi_P, by decide, Or.inl (gd_in1 162 (by decide +kernel) (by decide +kernel)), to_P, n_P, rfl, by decide +kernel⟩
theorem kf_P_57 : zd_F classes gd_T "CutPlanner" 57 1 2 := ⟨R_T, F_T, 6, rfl, wi_T, by decide, Or.inr ⟨"CutPlanner", gd_in1 42 (by decide +kernel) (by decide +kernel)⟩⟩
theorem kp_P_57 : zd_FP classes gd_T "CutPlanner" 57 1 2 := ⟨R_T, F_T, 6, ft_T, rfl, wi_T, by decide, Or.inr ⟨"CutPlanner", gd_in1 42 (by decide +kernel) (by decide +kernel)⟩, to_T, n_T, rfl, by decide +kernel⟩
theorem kc_P_67 : zd_C gd_T "CutPlanner" 67 y_T_newFact b_T_newFact 4 (some .int) 2 := ⟨wc_T_newFact, gd_in1 2 (by decide +kernel) (by decide +kernel), ⟨by decide, by decide⟩, by decide +kernel, by decide, Or.inl (gd_in2 183 (by decide +kernel) (by decide +kernel))⟩
theorem ki_T_newFact : Cond.instanceMethod y_T_newFact ∈ gd_T := gd_in2 184 (by decide +kernel) (by decide +kernel)
theorem ke_T_newFact : Cond.selects y_T_newFact.cls y_T_newFact y_T_newFact ∈ gd_T := gd_in2 185 (by decide +kernel) (by decide +kernel)
theorem kc_P_71 : zd_C gd_T "CutPlanner" 71 y_P_startAnew b_P_startAnew 1 (none) 0 := ⟨wc_P_startAnew, gd_in1 1 (by decide +kernel) (by decide +kernel), ⟨by decide, by decide⟩, by decide +kernel, by decide, Or.inl (gd_in2 187 (by decide +kernel) (by decide +kernel))⟩
theorem ki_P_startAnew : Cond.instanceMethod y_P_startAnew ∈ gd_T := gd_in2 189 (by decide +kernel) (by decide +kernel)
theorem ke_P_startAnew : Cond.selects y_P_startAnew.cls y_P_startAnew y_P_startAnew ∈ gd_T := gd_sel (n := 7) 13 (by decide +kernel)
theorem kf_P_79 : zd_F classes gd_T "CutPlanner" 79 1 3 := ⟨R_T, F_T, 6, rfl, wi_T, by decide, Or.inr ⟨"CutPlanner", gd_in1 46 (by decide +kernel) (by decide +kernel)⟩⟩
theorem kp_P_79 : zd_FP classes gd_T "CutPlanner" 79 1 3 := ⟨R_T, F_T, 6, ft_T, rfl, wi_T, by decide, Or.inr ⟨"CutPlanner", gd_in1 46 (by decide +kernel) (by decide +kernel)⟩, to_T, n_T, rfl, by decide +kernel⟩
theorem kc_P_84 : zd_C gd_T "CutPlanner" 84 y_T_newAction b_T_newAction 3 (some .int) 1 := ⟨wc_T_newAction, gd_in1 2 (by decide +kernel) (by decide +kernel), ⟨by decide, by decide⟩, by decide +kernel, by decide, Or.inl (gd_in2 216 (by decide +kernel) (by decide +kernel))⟩
theorem ki_T_newAction : Cond.instanceMethod y_T_newAction ∈ gd_T := gd_in2 217 (by decide +kernel) (by decide +kernel)
theorem ke_T_newAction : Cond.selects y_T_newAction.cls y_T_newAction y_T_newAction ∈ gd_T := gd_in2 218 (by decide +kernel) (by decide +kernel)
theorem kc_P_88 : zd_C gd_T "CutPlanner" 88 y_P_refuseUnknownAction b_P_refuseUnknownAction 2 (none) 1 := ⟨wc_P_refuseUnknownAction, gd_in1 1 (by decide +kernel) (by decide +kernel), ⟨by decide, by decide⟩, by decide +kernel, by decide, Or.inl (gd_in2 228 (by decide +kernel) (by decide +kernel))⟩
theorem ki_P_refuseUnknownAction : Cond.instanceMethod y_P_refuseUnknownAction ∈ gd_T := gd_in2 230 (by decide +kernel) (by decide +kernel)
theorem ke_P_refuseUnknownAction : Cond.selects y_P_refuseUnknownAction.cls y_P_refuseUnknownAction y_P_refuseUnknownAction ∈ gd_T := gd_sel (n := 7) 14 (by decide +kernel)
theorem kc_P_91 : zd_C gd_T "CutPlanner" 91 y_P_refuseUnknownFact b_P_refuseUnknownFact 2 (none) 1 := ⟨wc_P_refuseUnknownFact, gd_in1 1 (by decide +kernel) (by decide +kernel), ⟨by decide, by decide⟩, by decide +kernel, by decide, Or.inl (gd_in3 8 (by decide +kernel) (by decide +kernel))⟩
theorem ki_P_refuseUnknownFact : Cond.instanceMethod y_P_refuseUnknownFact ∈ gd_T := gd_in3 10 (by decide +kernel) (by decide +kernel)
theorem ke_P_refuseUnknownFact : Cond.selects y_P_refuseUnknownFact.cls y_P_refuseUnknownFact y_P_refuseUnknownFact ∈ gd_T := gd_sel (n := 7) 15 (by decide +kernel)
theorem kf_P_96 : zd_F classes gd_T "CutPlanner" 96 1 1 := ⟨R_T, F_T, 6, rfl, wi_T, by decide, Or.inr ⟨"CutPlanner", gd_in1 40 (by decide +kernel) (by decide +kernel)⟩⟩
theorem kc_P_100 : zd_C gd_T "CutPlanner" 100 y_P_has b_P_has 2 (some .boolean) 2 := ⟨wc_P_has, gd_in1 1 (by decide +kernel) (by decide +kernel), ⟨by decide, by decide⟩, by decide +kernel, by decide, Or.inl (gd_in3 14 (by decide +kernel) (by decide +kernel))⟩
theorem ks_P_has : Cond.static y_P_has ∈ gd_T := gd_in2 22 (by decide +kernel) (by decide +kernel)
theorem kf_P_106 : zd_F classes gd_T "CutPlanner" 106 1 4 := ⟨R_T, F_T, 6, rfl, wi_T, by decide, Or.inr ⟨"CutPlanner", gd_in1 49 (by decide +kernel) (by decide +kernel)⟩⟩
theorem kp_P_106 : zd_FP classes gd_T "CutPlanner" 106 1 4 := ⟨R_T, F_T, 6, ft_T, rfl, wi_T, by decide, Or.inr ⟨"CutPlanner", gd_in1 49 (by decide +kernel) (by decide +kernel)⟩, to_T, n_T, rfl, by decide +kernel⟩
theorem kc_P_109 : zd_C gd_T "CutPlanner" 109 y_T_allows b_T_allows 3 (some .boolean) 2 := ⟨wc_T_allows, gd_in1 2 (by decide +kernel) (by decide +kernel), ⟨by decide, by decide⟩, by decide +kernel, by decide, Or.inl (gd_in2 100 (by decide +kernel) (by decide +kernel))⟩
theorem ki_T_allows : Cond.instanceMethod y_T_allows ∈ gd_T := gd_in1 207 (by decide +kernel) (by decide +kernel)
theorem ke_T_allows : Cond.selects y_T_allows.cls y_T_allows y_T_allows ∈ gd_T := gd_in1 208 (by decide +kernel) (by decide +kernel)
theorem kc_P_114 : zd_C gd_T "CutPlanner" 114 y_T_after b_T_after 3 (some .int) 2 := ⟨wc_T_after, gd_in1 2 (by decide +kernel) (by decide +kernel), ⟨by decide, by decide⟩, by decide +kernel, by decide, Or.inl (gd_in2 101 (by decide +kernel) (by decide +kernel))⟩
theorem ki_T_after : Cond.instanceMethod y_T_after ∈ gd_T := gd_in1 214 (by decide +kernel) (by decide +kernel)
theorem ke_T_after : Cond.selects y_T_after.cls y_T_after y_T_after ∈ gd_T := gd_in1 215 (by decide +kernel) (by decide +kernel)
theorem kc_P_118 : zd_C gd_T "CutPlanner" 118 y_T_isMet b_T_isMet 2 (some .boolean) 1 := ⟨wc_T_isMet, gd_in1 2 (by decide +kernel) (by decide +kernel), ⟨by decide, by decide⟩, by decide +kernel, by decide, Or.inl (gd_in2 102 (by decide +kernel) (by decide +kernel))⟩
theorem ki_T_isMet : Cond.instanceMethod y_T_isMet ∈ gd_T := gd_in1 226 (by decide +kernel) (by decide +kernel)
theorem ke_T_isMet : Cond.selects y_T_isMet.cls y_T_isMet y_T_isMet ∈ gd_T := gd_in1 227 (by decide +kernel) (by decide +kernel)
theorem kc_P_122 : zd_C gd_T "CutPlanner" 122 y_S_explore b_S_explore 5 (none) 1 := ⟨wc_S_explore, gd_in1 3 (by decide +kernel) (by decide +kernel), ⟨by decide, by decide⟩, by decide +kernel, by decide, Or.inl (gd_in1 186 (by decide +kernel) (by decide +kernel))⟩
theorem ki_S_explore : Cond.instanceMethod y_S_explore ∈ gd_T := gd_in1 187 (by decide +kernel) (by decide +kernel)
theorem ke_S_explore : Cond.selects y_S_explore.cls y_S_explore y_S_explore ∈ gd_T := gd_in1 188 (by decide +kernel) (by decide +kernel)
theorem kc_P_125 : zd_C gd_T "CutPlanner" 125 y_R_empty b_R_empty 1 (none) 0 := ⟨wc_R_empty, gd_in1 5 (by decide +kernel) (by decide +kernel), ⟨by decide, by decide⟩, by decide +kernel, by decide, Or.inl (gd_in1 217 (by decide +kernel) (by decide +kernel))⟩
theorem ki_R_empty : Cond.instanceMethod y_R_empty ∈ gd_T := gd_in1 218 (by decide +kernel) (by decide +kernel)
theorem ke_R_empty : Cond.selects y_R_empty.cls y_R_empty y_R_empty ∈ gd_T := gd_in1 219 (by decide +kernel) (by decide +kernel)
theorem kc_P_128 : zd_C gd_T "CutPlanner" 128 y_S_leastToMet b_S_leastToMet 2 (some .int) 0 := ⟨wc_S_leastToMet, gd_in1 3 (by decide +kernel) (by decide +kernel), ⟨by decide, by decide⟩, by decide +kernel, by decide, Or.inl (gd_in1 221 (by decide +kernel) (by decide +kernel))⟩
theorem ki_S_leastToMet : Cond.instanceMethod y_S_leastToMet ∈ gd_T := gd_in1 222 (by decide +kernel) (by decide +kernel)
theorem ke_S_leastToMet : Cond.selects y_S_leastToMet.cls y_S_leastToMet y_S_leastToMet ∈ gd_T := gd_in1 223 (by decide +kernel) (by decide +kernel)
theorem kc_P_132 : zd_C gd_T "CutPlanner" 132 y_S_writeBest b_S_writeBest 7 (none) 3 := ⟨wc_S_writeBest, gd_in1 3 (by decide +kernel) (by decide +kernel), ⟨by decide, by decide⟩, by decide +kernel, by decide, Or.inl (gd_in1 229 (by decide +kernel) (by decide +kernel))⟩
theorem ki_S_writeBest : Cond.instanceMethod y_S_writeBest ∈ gd_T := gd_in1 230 (by decide +kernel) (by decide +kernel)
theorem ke_S_writeBest : Cond.selects y_S_writeBest.cls y_S_writeBest y_S_writeBest ∈ gd_T := gd_in1 231 (by decide +kernel) (by decide +kernel)
theorem kf_P_136 : zd_F classes gd_T "CutPlanner" 136 2 1 := ⟨R_R, F_R, 2, rfl, wi_R, by decide, Or.inr ⟨"CutPlanner", gd_in1 105 (by decide +kernel) (by decide +kernel)⟩⟩
theorem kp_P_136 : zd_FP classes gd_T "CutPlanner" 136 2 1 := ⟨R_R, F_R, 2, ft_R, rfl, wi_R, by decide, Or.inr ⟨"CutPlanner", gd_in1 105 (by decide +kernel) (by decide +kernel)⟩, to_R, n_R, rfl, by decide +kernel⟩
theorem kf_P_139 : zd_F classes gd_T "CutPlanner" 139 2 0 := ⟨R_R, F_R, 2, rfl, wi_R, by decide, Or.inr ⟨"CutPlanner", gd_in1 103 (by decide +kernel) (by decide +kernel)⟩⟩
theorem kf_P_143 : zd_F classes gd_T "CutPlanner" 143 3 5 := ⟨R_S, F_S, 6, rfl, wi_S, by decide, Or.inr ⟨"CutPlanner", gd_in1 82 (by decide +kernel) (by decide +kernel)⟩⟩
theorem kp_P_143 : zd_FP classes gd_T "CutPlanner" 143 3 5 := ⟨R_S, F_S, 6, ft_S, rfl, wi_S, by decide, Or.inr ⟨"CutPlanner", gd_in1 82 (by decide +kernel) (by decide +kernel)⟩, to_S, n_S, rfl, by decide +kernel⟩
theorem kc_P_146 : zd_C gd_T "CutPlanner" 146 y_S_cameTo b_S_cameTo 3 (some .boolean) 1 := ⟨wc_S_cameTo, gd_in1 3 (by decide +kernel) (by decide +kernel), ⟨by decide, by decide⟩, by decide +kernel, by decide, Or.inl (gd_in3 45 (by decide +kernel) (by decide +kernel))⟩
theorem ki_S_cameTo : Cond.instanceMethod y_S_cameTo ∈ gd_T := gd_in3 46 (by decide +kernel) (by decide +kernel)
theorem ke_S_cameTo : Cond.selects y_S_cameTo.cls y_S_cameTo y_S_cameTo ∈ gd_T := gd_in3 47 (by decide +kernel) (by decide +kernel)
theorem kf_P_149 : zd_F classes gd_T "CutPlanner" 149 1 0 := ⟨R_T, F_T, 6, rfl, wi_T, by decide, Or.inr ⟨"CutPlanner", gd_in1 36 (by decide +kernel) (by decide +kernel)⟩⟩
theorem kc_P_152 : zd_C gd_T "CutPlanner" 152 y_V_measure b_V_measure 9 (none) 4 := ⟨wc_V_measure, gd_in1 6 (by decide +kernel) (by decide +kernel), ⟨by decide, by decide⟩, by decide +kernel, by decide, Or.inl (gd_in2 17 (by decide +kernel) (by decide +kernel))⟩
theorem ki_V_measure : Cond.instanceMethod y_V_measure ∈ gd_T := gd_in2 18 (by decide +kernel) (by decide +kernel)
theorem ke_V_measure : Cond.selects y_V_measure.cls y_V_measure y_V_measure ∈ gd_T := gd_in2 19 (by decide +kernel) (by decide +kernel)
theorem kf_P_156 : zd_F classes gd_T "CutPlanner" 156 4 1 := ⟨R_V, F_V, 2, rfl, wi_V, by decide, Or.inr ⟨"CutPlanner", gd_in1 119 (by decide +kernel) (by decide +kernel)⟩⟩
theorem kc_P_159 : zd_C gd_T "CutPlanner" 159 y_P_orNone b_P_orNone 1 (some .int) 1 := ⟨wc_P_orNone, gd_in1 1 (by decide +kernel) (by decide +kernel), ⟨by decide, by decide⟩, by decide +kernel, by decide, Or.inl (gd_in2 40 (by decide +kernel) (by decide +kernel))⟩
theorem ks_P_orNone : Cond.static y_P_orNone ∈ gd_T := gd_in2 41 (by decide +kernel) (by decide +kernel)
theorem kf_P_162 : zd_F classes gd_T "CutPlanner" 162 1 5 := ⟨R_T, F_T, 6, rfl, wi_T, by decide, Or.inr ⟨"CutPlanner", gd_in1 52 (by decide +kernel) (by decide +kernel)⟩⟩
theorem kp_P_162 : zd_FP classes gd_T "CutPlanner" 162 1 5 := ⟨R_T, F_T, 6, ft_T, rfl, wi_T, by decide, Or.inr ⟨"CutPlanner", gd_in1 52 (by decide +kernel) (by decide +kernel)⟩, to_T, n_T, rfl, by decide +kernel⟩
theorem kc_P_165 : zd_C gd_T "CutPlanner" 165 y_V_joined b_V_joined 5 (some .int) 2 := ⟨wc_V_joined, gd_in1 6 (by decide +kernel) (by decide +kernel), ⟨by decide, by decide⟩, by decide +kernel, by decide, Or.inl (gd_in2 39 (by decide +kernel) (by decide +kernel))⟩
theorem ki_V_joined : Cond.instanceMethod y_V_joined ∈ gd_T := gd_in2 26 (by decide +kernel) (by decide +kernel)
theorem ke_V_joined : Cond.selects y_V_joined.cls y_V_joined y_V_joined ∈ gd_T := gd_in2 27 (by decide +kernel) (by decide +kernel)
theorem kc_P_169 : zd_C gd_T "CutPlanner" 169 y_U_collect b_U_collect 4 (none) 1 := ⟨wc_U_collect, gd_in1 7 (by decide +kernel) (by decide +kernel), ⟨by decide, by decide⟩, by decide +kernel, by decide, Or.inl (gd_in2 48 (by decide +kernel) (by decide +kernel))⟩
theorem ki_U_collect : Cond.instanceMethod y_U_collect ∈ gd_T := gd_in2 49 (by decide +kernel) (by decide +kernel)
theorem ke_U_collect : Cond.selects y_U_collect.cls y_U_collect y_U_collect ∈ gd_T := gd_in2 50 (by decide +kernel) (by decide +kernel)
theorem kf_P_172 : zd_F classes gd_T "CutPlanner" 172 5 6 := ⟨R_U, F_U, 7, rfl, wi_U, by decide, Or.inr ⟨"CutPlanner", gd_in1 140 (by decide +kernel) (by decide +kernel)⟩⟩
theorem kp_P_172 : zd_FP classes gd_T "CutPlanner" 172 5 6 := ⟨R_U, F_U, 7, ft_U, rfl, wi_U, by decide, Or.inr ⟨"CutPlanner", gd_in1 140 (by decide +kernel) (by decide +kernel)⟩, to_U, n_U, rfl, by decide +kernel⟩
theorem kf_P_175 : zd_F classes gd_T "CutPlanner" 175 5 5 := ⟨R_U, F_U, 7, rfl, wi_U, by decide, Or.inr ⟨"CutPlanner", gd_in1 138 (by decide +kernel) (by decide +kernel)⟩⟩
theorem kp_P_175 : zd_FP classes gd_T "CutPlanner" 175 5 5 := ⟨R_U, F_U, 7, ft_U, rfl, wi_U, by decide, Or.inr ⟨"CutPlanner", gd_in1 138 (by decide +kernel) (by decide +kernel)⟩, to_U, n_U, rfl, by decide +kernel⟩
theorem kf_P_178 : zd_F classes gd_T "CutPlanner" 178 5 4 := ⟨R_U, F_U, 7, rfl, wi_U, by decide, Or.inr ⟨"CutPlanner", gd_in1 136 (by decide +kernel) (by decide +kernel)⟩⟩
theorem kc_P_181 : zd_C gd_T "CutPlanner" 181 y_T_addersOf b_T_addersOf 4 (some .int) 1 := ⟨wc_T_addersOf, gd_in1 2 (by decide +kernel) (by decide +kernel), ⟨by decide, by decide⟩, by decide +kernel, by decide, Or.inl (gd_in3 64 (by decide +kernel) (by decide +kernel))⟩
theorem ki_T_addersOf : Cond.instanceMethod y_T_addersOf ∈ gd_T := gd_in3 65 (by decide +kernel) (by decide +kernel)
theorem ke_T_addersOf : Cond.selects y_T_addersOf.cls y_T_addersOf y_T_addersOf ∈ gd_T := gd_in3 66 (by decide +kernel) (by decide +kernel)
theorem kk_P_184 : Cond.constant "CutPlanner" 184 (nI 1000000) ∈ gd_T := gd_in2 43 (by decide +kernel) (by decide +kernel)
theorem kc_P_187 : zd_C gd_T "CutPlanner" 187 y_R_append b_R_append 2 (none) 1 := ⟨wc_R_append, gd_in1 5 (by decide +kernel) (by decide +kernel), ⟨by decide, by decide⟩, by decide +kernel, by decide, Or.inl (gd_in3 77 (by decide +kernel) (by decide +kernel))⟩
theorem ki_R_append : Cond.instanceMethod y_R_append ∈ gd_T := gd_in1 238 (by decide +kernel) (by decide +kernel)
theorem ke_R_append : Cond.selects y_R_append.cls y_R_append y_R_append ∈ gd_T := gd_in1 239 (by decide +kernel) (by decide +kernel)
theorem kf_M_7 : zd_F classes gd_T "CutPlannerModel" 7 6 5 := ⟨R_M, F_M, 21, rfl, wi_M, by decide, Or.inl (gd_in3 89 (by decide +kernel) (by decide +kernel))⟩
theorem kf_M_13 : zd_F classes gd_T "CutPlannerModel" 13 6 6 := ⟨R_M, F_M, 21, rfl, wi_M, by decide, Or.inl (gd_in3 90 (by decide +kernel) (by decide +kernel))⟩
theorem kf_M_16 : zd_F classes gd_T "CutPlannerModel" 16 6 7 := ⟨R_M, F_M, 21, rfl, wi_M, by decide, Or.inl (gd_in3 91 (by decide +kernel) (by decide +kernel))⟩
theorem kf_M_19 : zd_F classes gd_T "CutPlannerModel" 19 6 8 := ⟨R_M, F_M, 21, rfl, wi_M, by decide, Or.inl (gd_in3 92 (by decide +kernel) (by decide +kernel))⟩
theorem kf_M_22 : zd_F classes gd_T "CutPlannerModel" 22 6 11 := ⟨R_M, F_M, 21, rfl, wi_M, by decide, Or.inl (gd_in3 95 (by decide +kernel) (by decide +kernel))⟩
theorem kf_M_25 : zd_F classes gd_T "CutPlannerModel" 25 6 13 := ⟨R_M, F_M, 21, rfl, wi_M, by decide, Or.inl (gd_in3 97 (by decide +kernel) (by decide +kernel))⟩
theorem kf_M_28 : zd_F classes gd_T "CutPlannerModel" 28 6 14 := ⟨R_M, F_M, 21, rfl, wi_M, by decide, Or.inl (gd_in3 98 (by decide +kernel) (by decide +kernel))⟩
theorem kf_M_31 : zd_F classes gd_T "CutPlannerModel" 31 6 15 := ⟨R_M, F_M, 21, rfl, wi_M, by decide, Or.inl (gd_in3 99 (by decide +kernel) (by decide +kernel))⟩
theorem kf_M_35 : zd_F classes gd_T "CutPlannerModel" 35 6 16 := ⟨R_M, F_M, 21, rfl, wi_M, by decide, Or.inl (gd_in3 100 (by decide +kernel) (by decide +kernel))⟩
theorem kf_M_38 : zd_F classes gd_T "CutPlannerModel" 38 6 17 := ⟨R_M, F_M, 21, rfl, wi_M, by decide, Or.inl (gd_in3 101 (by decide +kernel) (by decide +kernel))⟩
theorem kf_M_41 : zd_F classes gd_T "CutPlannerModel" 41 6 19 := ⟨R_M, F_M, 21, rfl, wi_M, by decide, Or.inl (gd_in3 103 (by decide +kernel) (by decide +kernel))⟩
theorem kf_M_44 : zd_F classes gd_T "CutPlannerModel" 44 6 0 := ⟨R_M, F_M, 21, rfl, wi_M, by decide, Or.inl (gd_in3 84 (by decide +kernel) (by decide +kernel))⟩
theorem kp_M_44 : zd_FP classes gd_T "CutPlannerModel" 44 6 0 := ⟨R_M, F_M, 21, ft_M, rfl, wi_M, by decide, Or.inl (gd_in3 84 (by decide +kernel) (by decide +kernel)), to_M, n_M, rfl, by decide +kernel⟩
theorem kf_M_48 : zd_F classes gd_T "CutPlannerModel" 48 6 1 := ⟨R_M, F_M, 21, rfl, wi_M, by decide, Or.inl (gd_in3 85 (by decide +kernel) (by decide +kernel))⟩
theorem kp_M_48 : zd_FP classes gd_T "CutPlannerModel" 48 6 1 := ⟨R_M, F_M, 21, ft_M, rfl, wi_M, by decide, Or.inl (gd_in3 85 (by decide +kernel) (by decide +kernel)), to_M, n_M, rfl, by decide +kernel⟩
theorem kf_M_51 : zd_F classes gd_T "CutPlannerModel" 51 6 4 := ⟨R_M, F_M, 21, rfl, wi_M, by decide, Or.inl (gd_in3 88 (by decide +kernel) (by decide +kernel))⟩
theorem kp_M_51 : zd_FP classes gd_T "CutPlannerModel" 51 6 4 := ⟨R_M, F_M, 21, ft_M, rfl, wi_M, by decide, Or.inl (gd_in3 88 (by decide +kernel) (by decide +kernel)), to_M, n_M, rfl, by decide +kernel⟩
theorem kf_M_54 : zd_F classes gd_T "CutPlannerModel" 54 6 12 := ⟨R_M, F_M, 21, rfl, wi_M, by decide, Or.inl (gd_in3 96 (by decide +kernel) (by decide +kernel))⟩
theorem kp_M_54 : zd_FP classes gd_T "CutPlannerModel" 54 6 12 := ⟨R_M, F_M, 21, ft_M, rfl, wi_M, by decide, Or.inl (gd_in3 96 (by decide +kernel) (by decide +kernel)), to_M, n_M, rfl, by decide +kernel⟩
theorem kf_M_57 : zd_F classes gd_T "CutPlannerModel" 57 6 2 := ⟨R_M, F_M, 21, rfl, wi_M, by decide, Or.inl (gd_in3 86 (by decide +kernel) (by decide +kernel))⟩
theorem kp_M_57 : zd_FP classes gd_T "CutPlannerModel" 57 6 2 := ⟨R_M, F_M, 21, ft_M, rfl, wi_M, by decide, Or.inl (gd_in3 86 (by decide +kernel) (by decide +kernel)), to_M, n_M, rfl, by decide +kernel⟩
theorem kf_M_60 : zd_F classes gd_T "CutPlannerModel" 60 6 9 := ⟨R_M, F_M, 21, rfl, wi_M, by decide, Or.inl (gd_in3 93 (by decide +kernel) (by decide +kernel))⟩
theorem kp_M_60 : zd_FP classes gd_T "CutPlannerModel" 60 6 9 := ⟨R_M, F_M, 21, ft_M, rfl, wi_M, by decide, Or.inl (gd_in3 93 (by decide +kernel) (by decide +kernel)), to_M, n_M, rfl, by decide +kernel⟩
theorem kf_M_63 : zd_F classes gd_T "CutPlannerModel" 63 6 3 := ⟨R_M, F_M, 21, rfl, wi_M, by decide, Or.inl (gd_in3 87 (by decide +kernel) (by decide +kernel))⟩
theorem kp_M_63 : zd_FP classes gd_T "CutPlannerModel" 63 6 3 := ⟨R_M, F_M, 21, ft_M, rfl, wi_M, by decide, Or.inl (gd_in3 87 (by decide +kernel) (by decide +kernel)), to_M, n_M, rfl, by decide +kernel⟩
theorem kc_M_66 : zd_C gd_T "CutPlannerModel" 66 y_M_changed b_M_changed 1 (none) 0 := ⟨wc_M_changed, gd_in1 8 (by decide +kernel) (by decide +kernel), ⟨by decide, by decide⟩, by decide +kernel, by decide, Or.inl (gd_in3 157 (by decide +kernel) (by decide +kernel))⟩
theorem ki_M_changed : Cond.instanceMethod y_M_changed ∈ gd_T := gd_in3 159 (by decide +kernel) (by decide +kernel)
theorem ke_M_changed : Cond.selects y_M_changed.cls y_M_changed y_M_changed ∈ gd_T := gd_sel (n := 21) 16 (by decide +kernel)
theorem kc_M_69 : zd_C gd_T "CutPlannerModel" 69 y_M_noAction b_M_noAction 2 (some .boolean) 1 := ⟨wc_M_noAction, gd_in1 8 (by decide +kernel) (by decide +kernel), ⟨by decide, by decide⟩, by decide +kernel, by decide, Or.inl (gd_in3 169 (by decide +kernel) (by decide +kernel))⟩
theorem ki_M_noAction : Cond.instanceMethod y_M_noAction ∈ gd_T := gd_in3 171 (by decide +kernel) (by decide +kernel)
theorem ke_M_noAction : Cond.selects y_M_noAction.cls y_M_noAction y_M_noAction ∈ gd_T := gd_sel (n := 21) 17 (by decide +kernel)
theorem kc_M_73 : zd_C gd_T "CutPlannerModel" 73 y_M_noFact b_M_noFact 2 (some .boolean) 1 := ⟨wc_M_noFact, gd_in1 8 (by decide +kernel) (by decide +kernel), ⟨by decide, by decide⟩, by decide +kernel, by decide, Or.inl (gd_in3 173 (by decide +kernel) (by decide +kernel))⟩
theorem ki_M_noFact : Cond.instanceMethod y_M_noFact ∈ gd_T := gd_in3 175 (by decide +kernel) (by decide +kernel)
theorem ke_M_noFact : Cond.selects y_M_noFact.cls y_M_noFact y_M_noFact ∈ gd_T := gd_sel (n := 21) 18 (by decide +kernel)
theorem kc_M_76 : zd_C gd_T "CutPlannerModel" 76 y_M_can b_M_can 3 (some .boolean) 2 := ⟨wc_M_can, gd_in1 8 (by decide +kernel) (by decide +kernel), ⟨by decide, by decide⟩, by decide +kernel, by decide, Or.inl (gd_in3 189 (by decide +kernel) (by decide +kernel))⟩
theorem ki_M_can : Cond.instanceMethod y_M_can ∈ gd_T := gd_in3 191 (by decide +kernel) (by decide +kernel)
theorem ke_M_can : Cond.selects y_M_can.cls y_M_can y_M_can ∈ gd_T := gd_sel (n := 21) 19 (by decide +kernel)
theorem kc_M_80 : zd_C gd_T "CutPlannerModel" 80 y_M_after b_M_after 3 (some .int) 2 := ⟨wc_M_after, gd_in1 8 (by decide +kernel) (by decide +kernel), ⟨by decide, by decide⟩, by decide +kernel, by decide, Or.inl (gd_in3 197 (by decide +kernel) (by decide +kernel))⟩
theorem ki_M_after : Cond.instanceMethod y_M_after ∈ gd_T := gd_in3 199 (by decide +kernel) (by decide +kernel)
theorem ke_M_after : Cond.selects y_M_after.cls y_M_after y_M_after ∈ gd_T := gd_sel (n := 21) 20 (by decide +kernel)
theorem kc_M_84 : zd_C gd_T "CutPlannerModel" 84 y_M_isMet b_M_isMet 2 (some .boolean) 1 := ⟨wc_M_isMet, gd_in1 8 (by decide +kernel) (by decide +kernel), ⟨by decide, by decide⟩, by decide +kernel, by decide, Or.inl (gd_in3 201 (by decide +kernel) (by decide +kernel))⟩
theorem ki_M_isMet : Cond.instanceMethod y_M_isMet ∈ gd_T := gd_in3 203 (by decide +kernel) (by decide +kernel)
theorem ke_M_isMet : Cond.selects y_M_isMet.cls y_M_isMet y_M_isMet ∈ gd_T := gd_sel (n := 21) 21 (by decide +kernel)
theorem kk_M_87 : Cond.constant "CutPlannerModel" 87 (nI 1048576) ∈ gd_T := gd_in3 213 (by decide +kernel) (by decide +kernel)
theorem kc_M_88 : zd_C gd_T "CutPlannerModel" 88 y_M_findCosts b_M_findCosts 5 (none) 0 := ⟨wc_M_findCosts, gd_in1 8 (by decide +kernel) (by decide +kernel), ⟨by decide, by decide⟩, by decide +kernel, by decide, Or.inl (gd_in3 209 (by decide +kernel) (by decide +kernel))⟩
theorem ki_M_findCosts : Cond.instanceMethod y_M_findCosts ∈ gd_T := gd_in3 211 (by decide +kernel) (by decide +kernel)
theorem ke_M_findCosts : Cond.selects y_M_findCosts.cls y_M_findCosts y_M_findCosts ∈ gd_T := gd_sel (n := 21) 22 (by decide +kernel)
theorem kf_M_91 : zd_F classes gd_T "CutPlannerModel" 91 6 10 := ⟨R_M, F_M, 21, rfl, wi_M, by decide, Or.inl (gd_in3 94 (by decide +kernel) (by decide +kernel))⟩
theorem kp_M_91 : zd_FP classes gd_T "CutPlannerModel" 91 6 10 := ⟨R_M, F_M, 21, ft_M, rfl, wi_M, by decide, Or.inl (gd_in3 94 (by decide +kernel) (by decide +kernel)), to_M, n_M, rfl, by decide +kernel⟩
theorem kc_M_94 : zd_C gd_T "CutPlannerModel" 94 y_M_bestAction b_M_bestAction 3 (some .int) 1 := ⟨wc_M_bestAction, gd_in1 8 (by decide +kernel) (by decide +kernel), ⟨by decide, by decide⟩, by decide +kernel, by decide, Or.inl (gd_in3 214 (by decide +kernel) (by decide +kernel))⟩
theorem ki_M_bestAction : Cond.instanceMethod y_M_bestAction ∈ gd_T := gd_in3 216 (by decide +kernel) (by decide +kernel)
theorem ke_M_bestAction : Cond.selects y_M_bestAction.cls y_M_bestAction y_M_bestAction ∈ gd_T := gd_sel (n := 21) 23 (by decide +kernel)
theorem kc_M_98 : zd_C gd_T "CutPlannerModel" 98 y_M_comeTo b_M_comeTo 5 (none) 0 := ⟨wc_M_comeTo, gd_in1 8 (by decide +kernel) (by decide +kernel), ⟨by decide, by decide⟩, by decide +kernel, by decide, Or.inl (gd_in3 230 (by decide +kernel) (by decide +kernel))⟩
theorem ki_M_comeTo : Cond.instanceMethod y_M_comeTo ∈ gd_T := gd_in3 232 (by decide +kernel) (by decide +kernel)
theorem ke_M_comeTo : Cond.selects y_M_comeTo.cls y_M_comeTo y_M_comeTo ∈ gd_T := gd_sel (n := 21) 24 (by decide +kernel)
theorem kc_M_101 : zd_C gd_T "CutPlannerModel" 101 y_M_over b_M_over 5 (some .int) 2 := ⟨wc_M_over, gd_in1 8 (by decide +kernel) (by decide +kernel), ⟨by decide, by decide⟩, by decide +kernel, by decide, Or.inl (gd_in4 10 (by decide +kernel) (by decide +kernel))⟩
theorem ki_M_over : Cond.instanceMethod y_M_over ∈ gd_T := gd_in4 12 (by decide +kernel) (by decide +kernel)
theorem ke_M_over : Cond.selects y_M_over.cls y_M_over y_M_over ∈ gd_T := gd_sel (n := 21) 27 (by decide +kernel)
theorem kc_M_105 : zd_C gd_T "CutPlannerModel" 105 y_M_ownRates b_M_ownRates 2 (none) 0 := ⟨wc_M_ownRates, gd_in1 8 (by decide +kernel) (by decide +kernel), ⟨by decide, by decide⟩, by decide +kernel, by decide, Or.inl (gd_in4 2 (by decide +kernel) (by decide +kernel))⟩
theorem ki_M_ownRates : Cond.instanceMethod y_M_ownRates ∈ gd_T := gd_in4 4 (by decide +kernel) (by decide +kernel)
theorem ke_M_ownRates : Cond.selects y_M_ownRates.cls y_M_ownRates y_M_ownRates ∈ gd_T := gd_sel (n := 21) 25 (by decide +kernel)
theorem kc_M_108 : zd_C gd_T "CutPlannerModel" 108 y_M_findLevels b_M_findLevels 7 (none) 2 := ⟨wc_M_findLevels, gd_in1 8 (by decide +kernel) (by decide +kernel), ⟨by decide, by decide⟩, by decide +kernel, by decide, Or.inl (gd_in4 6 (by decide +kernel) (by decide +kernel))⟩
theorem ki_M_findLevels : Cond.instanceMethod y_M_findLevels ∈ gd_T := gd_in4 8 (by decide +kernel) (by decide +kernel)
theorem ke_M_findLevels : Cond.selects y_M_findLevels.cls y_M_findLevels y_M_findLevels ∈ gd_T := gd_sel (n := 21) 26 (by decide +kernel)
theorem kc_M_112 : zd_C gd_T "CutPlannerModel" 112 y_M_told b_M_told 1 (some .int) 1 := ⟨wc_M_told, gd_in1 8 (by decide +kernel) (by decide +kernel), ⟨by decide, by decide⟩, by decide +kernel, by decide, Or.inl (gd_in4 14 (by decide +kernel) (by decide +kernel))⟩
theorem ks_M_told : Cond.static y_M_told ∈ gd_T := gd_in4 15 (by decide +kernel) (by decide +kernel)
theorem kc_M_115 : zd_C gd_T "CutPlannerModel" 115 y_M_base b_M_base 4 (some .int) 1 := ⟨wc_M_base, gd_in1 8 (by decide +kernel) (by decide +kernel), ⟨by decide, by decide⟩, by decide +kernel, by decide, Or.inl (gd_in4 33 (by decide +kernel) (by decide +kernel))⟩
theorem ki_M_base : Cond.instanceMethod y_M_base ∈ gd_T := gd_in4 35 (by decide +kernel) (by decide +kernel)
theorem ke_M_base : Cond.selects y_M_base.cls y_M_base y_M_base ∈ gd_T := gd_sel (n := 21) 30 (by decide +kernel)
theorem kf_M_118 : zd_F classes gd_T "CutPlannerModel" 118 6 18 := ⟨R_M, F_M, 21, rfl, wi_M, by decide, Or.inl (gd_in3 102 (by decide +kernel) (by decide +kernel))⟩
theorem kp_M_118 : zd_FP classes gd_T "CutPlannerModel" 118 6 18 := ⟨R_M, F_M, 21, ft_M, rfl, wi_M, by decide, Or.inl (gd_in3 102 (by decide +kernel) (by decide +kernel)), to_M, n_M, rfl, by decide +kernel⟩
theorem kf_M_121 : zd_F classes gd_T "CutPlannerModel" 121 6 20 := ⟨R_M, F_M, 21, rfl, wi_M, by decide, Or.inl (gd_in3 104 (by decide +kernel) (by decide +kernel))⟩
theorem kp_M_121 : zd_FP classes gd_T "CutPlannerModel" 121 6 20 := ⟨R_M, F_M, 21, ft_M, rfl, wi_M, by decide, Or.inl (gd_in3 104 (by decide +kernel) (by decide +kernel)), to_M, n_M, rfl, by decide +kernel⟩
theorem kc_M_124 : zd_C gd_T "CutPlannerModel" 124 y_M_zone b_M_zone 5 (some .int) 0 := ⟨wc_M_zone, gd_in1 8 (by decide +kernel) (by decide +kernel), ⟨by decide, by decide⟩, by decide +kernel, by decide, Or.inl (gd_in4 29 (by decide +kernel) (by decide +kernel))⟩
theorem ki_M_zone : Cond.instanceMethod y_M_zone ∈ gd_T := gd_in4 31 (by decide +kernel) (by decide +kernel)
theorem ke_M_zone : Cond.selects y_M_zone.cls y_M_zone y_M_zone ∈ gd_T := gd_sel (n := 21) 29 (by decide +kernel)
theorem kc_M_128 : zd_C gd_T "CutPlannerModel" 128 y_M_rest b_M_rest 6 (some .int) 1 := ⟨wc_M_rest, gd_in1 8 (by decide +kernel) (by decide +kernel), ⟨by decide, by decide⟩, by decide +kernel, by decide, Or.inl (gd_in4 37 (by decide +kernel) (by decide +kernel))⟩
theorem ki_M_rest : Cond.instanceMethod y_M_rest ∈ gd_T := gd_in4 39 (by decide +kernel) (by decide +kernel)
theorem ke_M_rest : Cond.selects y_M_rest.cls y_M_rest y_M_rest ∈ gd_T := gd_sel (n := 21) 31 (by decide +kernel)
theorem kc_M_131 : zd_C gd_T "CutPlannerModel" 131 y_M_actionsAcross b_M_actionsAcross 6 (some .int) 2 := ⟨wc_M_actionsAcross, gd_in1 8 (by decide +kernel) (by decide +kernel), ⟨by decide, by decide⟩, by decide +kernel, by decide, Or.inl (gd_in4 41 (by decide +kernel) (by decide +kernel))⟩
theorem ki_M_actionsAcross : Cond.instanceMethod y_M_actionsAcross ∈ gd_T := gd_in4 43 (by decide +kernel) (by decide +kernel)
theorem ke_M_actionsAcross : Cond.selects y_M_actionsAcross.cls y_M_actionsAcross y_M_actionsAcross ∈ gd_T := gd_sel (n := 21) 32 (by decide +kernel)
theorem kc_M_134 : zd_C gd_T "CutPlannerModel" 134 y_M_least b_M_least 4 (some .int) 1 := ⟨wc_M_least, gd_in1 8 (by decide +kernel) (by decide +kernel), ⟨by decide, by decide⟩, by decide +kernel, by decide, Or.inl (gd_in4 45 (by decide +kernel) (by decide +kernel))⟩
theorem ki_M_least : Cond.instanceMethod y_M_least ∈ gd_T := gd_in4 47 (by decide +kernel) (by decide +kernel)
theorem ke_M_least : Cond.selects y_M_least.cls y_M_least y_M_least ∈ gd_T := gd_sel (n := 21) 33 (by decide +kernel)
theorem kc_M_137 : zd_C gd_T "CutPlannerModel" 137 y_M_cutAll b_M_cutAll 6 (none) 0 := ⟨wc_M_cutAll, gd_in1 8 (by decide +kernel) (by decide +kernel), ⟨by decide, by decide⟩, by decide +kernel, by decide, Or.inl (gd_in4 25 (by decide +kernel) (by decide +kernel))⟩
theorem ki_M_cutAll : Cond.instanceMethod y_M_cutAll ∈ gd_T := gd_in4 27 (by decide +kernel) (by decide +kernel)
theorem ke_M_cutAll : Cond.selects y_M_cutAll.cls y_M_cutAll y_M_cutAll ∈ gd_T := gd_sel (n := 21) 28 (by decide +kernel)
theorem kf_U_9 : zd_F classes gd_T "CutPlanner$Cuts" 9 5 2 := ⟨R_U, F_U, 7, rfl, wi_U, by decide, Or.inl (gd_in1 133 (by decide +kernel) (by decide +kernel))⟩
theorem kf_U_15 : zd_F classes gd_T "CutPlanner$Cuts" 15 5 3 := ⟨R_U, F_U, 7, rfl, wi_U, by decide, Or.inl (gd_in1 134 (by decide +kernel) (by decide +kernel))⟩
theorem kf_U_18 : zd_F classes gd_T "CutPlanner$Cuts" 18 5 4 := ⟨R_U, F_U, 7, rfl, wi_U, by decide, Or.inl (gd_in1 135 (by decide +kernel) (by decide +kernel))⟩
theorem kf_U_21 : zd_F classes gd_T "CutPlanner$Cuts" 21 5 0 := ⟨R_U, F_U, 7, rfl, wi_U, by decide, Or.inl (gd_in1 131 (by decide +kernel) (by decide +kernel))⟩
theorem kf_U_25 : zd_F classes gd_T "CutPlanner$Cuts" 25 5 1 := ⟨R_U, F_U, 7, rfl, wi_U, by decide, Or.inl (gd_in1 132 (by decide +kernel) (by decide +kernel))⟩
theorem kf_U_29 : zd_F classes gd_T "CutPlanner$Cuts" 29 1 0 := ⟨R_T, F_T, 6, rfl, wi_T, by decide, Or.inr ⟨"CutPlanner", gd_in1 34 (by decide +kernel) (by decide +kernel)⟩⟩
theorem kf_U_40 : zd_F classes gd_T "CutPlanner$Cuts" 40 5 5 := ⟨R_U, F_U, 7, rfl, wi_U, by decide, Or.inl (gd_in1 137 (by decide +kernel) (by decide +kernel))⟩
theorem kp_U_40 : zd_FP classes gd_T "CutPlanner$Cuts" 40 5 5 := ⟨R_U, F_U, 7, ft_U, rfl, wi_U, by decide, Or.inl (gd_in1 137 (by decide +kernel) (by decide +kernel)), to_U, n_U, rfl, by decide +kernel⟩
theorem kf_U_44 : zd_F classes gd_T "CutPlanner$Cuts" 44 5 6 := ⟨R_U, F_U, 7, rfl, wi_U, by decide, Or.inl (gd_in1 139 (by decide +kernel) (by decide +kernel))⟩
theorem kp_U_44 : zd_FP classes gd_T "CutPlanner$Cuts" 44 5 6 := ⟨R_U, F_U, 7, ft_U, rfl, wi_U, by decide, Or.inl (gd_in1 139 (by decide +kernel) (by decide +kernel)), to_U, n_U, rfl, by decide +kernel⟩
theorem kc_U_47 : zd_C gd_T "CutPlanner$Cuts" 47 y_U_goalHeight b_U_goalHeight 2 (some .int) 1 := ⟨wc_U_goalHeight, gd_in1 7 (by decide +kernel) (by decide +kernel), ⟨by decide, by decide⟩, by decide +kernel, by decide, Or.inl (gd_in2 55 (by decide +kernel) (by decide +kernel))⟩
theorem ki_U_goalHeight : Cond.instanceMethod y_U_goalHeight ∈ gd_T := gd_in2 57 (by decide +kernel) (by decide +kernel)
theorem ke_U_goalHeight : Cond.selects y_U_goalHeight.cls y_U_goalHeight y_U_goalHeight ∈ gd_T := gd_sel (n := 7) 6 (by decide +kernel)
theorem kk_U_51 : Cond.constant "CutPlanner$Cuts" 51 (nI 1000000) ∈ gd_T := gd_in2 61 (by decide +kernel) (by decide +kernel)
theorem kc_U_52 : zd_C gd_T "CutPlanner$Cuts" 52 y_U_nextCut b_U_nextCut 6 (some .int) 1 := ⟨wc_U_nextCut, gd_in1 7 (by decide +kernel) (by decide +kernel), ⟨by decide, by decide⟩, by decide +kernel, by decide, Or.inl (gd_in2 62 (by decide +kernel) (by decide +kernel))⟩
theorem ki_U_nextCut : Cond.instanceMethod y_U_nextCut ∈ gd_T := gd_in2 64 (by decide +kernel) (by decide +kernel)
theorem ke_U_nextCut : Cond.selects y_U_nextCut.cls y_U_nextCut y_U_nextCut ∈ gd_T := gd_sel (n := 7) 7 (by decide +kernel)
theorem kc_U_55 : zd_C gd_T "CutPlanner$Cuts" 55 y_U_pay b_U_pay 4 (some .int) 1 := ⟨wc_U_pay, gd_in1 7 (by decide +kernel) (by decide +kernel), ⟨by decide, by decide⟩, by decide +kernel, by decide, Or.inl (gd_in2 83 (by decide +kernel) (by decide +kernel))⟩
theorem ki_U_pay : Cond.instanceMethod y_U_pay ∈ gd_T := gd_in2 85 (by decide +kernel) (by decide +kernel)
theorem ke_U_pay : Cond.selects y_U_pay.cls y_U_pay y_U_pay ∈ gd_T := gd_sel (n := 7) 11 (by decide +kernel)
theorem kc_U_58 : zd_C gd_T "CutPlanner$Cuts" 58 y_V_measure b_V_measure 9 (none) 4 := ⟨wc_V_measure, gd_in1 6 (by decide +kernel) (by decide +kernel), ⟨by decide, by decide⟩, by decide +kernel, by decide, Or.inl (gd_in2 59 (by decide +kernel) (by decide +kernel))⟩
theorem kf_U_64 : zd_F classes gd_T "CutPlanner$Cuts" 64 1 5 := ⟨R_T, F_T, 6, rfl, wi_T, by decide, Or.inr ⟨"CutPlanner", gd_in1 51 (by decide +kernel) (by decide +kernel)⟩⟩
theorem kp_U_64 : zd_FP classes gd_T "CutPlanner$Cuts" 64 1 5 := ⟨R_T, F_T, 6, ft_T, rfl, wi_T, by decide, Or.inr ⟨"CutPlanner", gd_in1 51 (by decide +kernel) (by decide +kernel)⟩, to_T, n_T, rfl, by decide +kernel⟩
theorem kc_U_67 : zd_C gd_T "CutPlanner$Cuts" 67 y_V_joined b_V_joined 5 (some .int) 2 := ⟨wc_V_joined, gd_in1 6 (by decide +kernel) (by decide +kernel), ⟨by decide, by decide⟩, by decide +kernel, by decide, Or.inl (gd_in2 60 (by decide +kernel) (by decide +kernel))⟩
theorem kf_U_71 : zd_F classes gd_T "CutPlanner$Cuts" 71 1 3 := ⟨R_T, F_T, 6, rfl, wi_T, by decide, Or.inr ⟨"CutPlanner", gd_in1 47 (by decide +kernel) (by decide +kernel)⟩⟩
theorem kp_U_71 : zd_FP classes gd_T "CutPlanner$Cuts" 71 1 3 := ⟨R_T, F_T, 6, ft_T, rfl, wi_T, by decide, Or.inr ⟨"CutPlanner", gd_in1 47 (by decide +kernel) (by decide +kernel)⟩, to_T, n_T, rfl, by decide +kernel⟩
theorem kf_U_74 : zd_F classes gd_T "CutPlanner$Cuts" 74 1 1 := ⟨R_T, F_T, 6, rfl, wi_T, by decide, Or.inr ⟨"CutPlanner", gd_in1 39 (by decide +kernel) (by decide +kernel)⟩⟩
theorem kc_U_78 : zd_C gd_T "CutPlanner$Cuts" 78 y_V_baseOf b_V_baseOf 5 (some .int) 1 := ⟨wc_V_baseOf, gd_in1 6 (by decide +kernel) (by decide +kernel), ⟨by decide, by decide⟩, by decide +kernel, by decide, Or.inl (gd_in2 66 (by decide +kernel) (by decide +kernel))⟩
theorem ki_V_baseOf : Cond.instanceMethod y_V_baseOf ∈ gd_T := gd_in2 67 (by decide +kernel) (by decide +kernel)
theorem ke_V_baseOf : Cond.selects y_V_baseOf.cls y_V_baseOf y_V_baseOf ∈ gd_T := gd_in2 68 (by decide +kernel) (by decide +kernel)
theorem kc_U_81 : zd_C gd_T "CutPlanner$Cuts" 81 y_U_zoneBefore b_U_zoneBefore 7 (some .int) 1 := ⟨wc_U_zoneBefore, gd_in1 7 (by decide +kernel) (by decide +kernel), ⟨by decide, by decide⟩, by decide +kernel, by decide, Or.inl (gd_in2 70 (by decide +kernel) (by decide +kernel))⟩
theorem ki_U_zoneBefore : Cond.instanceMethod y_U_zoneBefore ∈ gd_T := gd_in2 72 (by decide +kernel) (by decide +kernel)
theorem ke_U_zoneBefore : Cond.selects y_U_zoneBefore.cls y_U_zoneBefore y_U_zoneBefore ∈ gd_T := gd_sel (n := 7) 8 (by decide +kernel)
theorem kc_U_84 : zd_C gd_T "CutPlanner$Cuts" 84 y_U_restBehind b_U_restBehind 7 (some .int) 2 := ⟨wc_U_restBehind, gd_in1 7 (by decide +kernel) (by decide +kernel), ⟨by decide, by decide⟩, by decide +kernel, by decide, Or.inl (gd_in2 74 (by decide +kernel) (by decide +kernel))⟩
theorem ki_U_restBehind : Cond.instanceMethod y_U_restBehind ∈ gd_T := gd_in2 76 (by decide +kernel) (by decide +kernel)
theorem ke_U_restBehind : Cond.selects y_U_restBehind.cls y_U_restBehind y_U_restBehind ∈ gd_T := gd_sel (n := 7) 9 (by decide +kernel)
theorem kc_U_88 : zd_C gd_T "CutPlanner$Cuts" 88 y_U_isBasedIn b_U_isBasedIn 3 (some .boolean) 2 := ⟨wc_U_isBasedIn, gd_in1 7 (by decide +kernel) (by decide +kernel), ⟨by decide, by decide⟩, by decide +kernel, by decide, Or.inl (gd_in2 78 (by decide +kernel) (by decide +kernel))⟩
theorem ki_U_isBasedIn : Cond.instanceMethod y_U_isBasedIn ∈ gd_T := gd_in2 80 (by decide +kernel) (by decide +kernel)
theorem ke_U_isBasedIn : Cond.selects y_U_isBasedIn.cls y_U_isBasedIn y_U_isBasedIn ∈ gd_T := gd_sel (n := 7) 10 (by decide +kernel)
theorem kc_U_92 : zd_C gd_T "CutPlanner$Cuts" 92 y_P_has b_P_has 2 (some .boolean) 2 := ⟨wc_P_has, gd_in1 1 (by decide +kernel) (by decide +kernel), ⟨by decide, by decide⟩, by decide +kernel, by decide, Or.inr ⟨"CutPlanner", gd_in2 82 (by decide +kernel) (by decide +kernel)⟩⟩
theorem kf_V_9 : zd_F classes gd_T "CutPlanner$Levels" 9 4 1 := ⟨R_V, F_V, 2, rfl, wi_V, by decide, Or.inl (gd_in1 118 (by decide +kernel) (by decide +kernel))⟩
theorem kf_V_15 : zd_F classes gd_T "CutPlanner$Levels" 15 4 0 := ⟨R_V, F_V, 2, rfl, wi_V, by decide, Or.inl (gd_in1 117 (by decide +kernel) (by decide +kernel))⟩
theorem kc_V_19 : zd_C gd_T "CutPlanner$Levels" 19 y_P_has b_P_has 2 (some .boolean) 2 := ⟨wc_P_has, gd_in1 1 (by decide +kernel) (by decide +kernel), ⟨by decide, by decide⟩, by decide +kernel, by decide, Or.inr ⟨"CutPlanner", gd_in2 21 (by decide +kernel) (by decide +kernel)⟩⟩
theorem kk_V_23 : Cond.constant "CutPlanner$Levels" 23 (nI 1000000) ∈ gd_T := gd_in2 24 (by decide +kernel) (by decide +kernel)
theorem kf_V_24 : zd_F classes gd_T "CutPlanner$Levels" 24 1 3 := ⟨R_T, F_T, 6, rfl, wi_T, by decide, Or.inr ⟨"CutPlanner", gd_in1 44 (by decide +kernel) (by decide +kernel)⟩⟩
theorem kp_V_24 : zd_FP classes gd_T "CutPlanner$Levels" 24 1 3 := ⟨R_T, F_T, 6, ft_T, rfl, wi_T, by decide, Or.inr ⟨"CutPlanner", gd_in1 44 (by decide +kernel) (by decide +kernel)⟩, to_T, n_T, rfl, by decide +kernel⟩
theorem kf_V_30 : zd_F classes gd_T "CutPlanner$Levels" 30 1 1 := ⟨R_T, F_T, 6, rfl, wi_T, by decide, Or.inr ⟨"CutPlanner", gd_in1 38 (by decide +kernel) (by decide +kernel)⟩⟩
theorem kc_V_34 : zd_C gd_T "CutPlanner$Levels" 34 y_V_joined b_V_joined 5 (some .int) 2 := ⟨wc_V_joined, gd_in1 6 (by decide +kernel) (by decide +kernel), ⟨by decide, by decide⟩, by decide +kernel, by decide, Or.inl (gd_in2 25 (by decide +kernel) (by decide +kernel))⟩
theorem kc_V_38 : zd_C gd_T "CutPlanner$Levels" 38 y_V_lower b_V_lower 5 (some .boolean) 2 := ⟨wc_V_lower, gd_in1 6 (by decide +kernel) (by decide +kernel), ⟨by decide, by decide⟩, by decide +kernel, by decide, Or.inl (gd_in2 35 (by decide +kernel) (by decide +kernel))⟩
theorem ki_V_lower : Cond.instanceMethod y_V_lower ∈ gd_T := gd_in2 37 (by decide +kernel) (by decide +kernel)
theorem ke_V_lower : Cond.selects y_V_lower.cls y_V_lower y_V_lower ∈ gd_T := gd_sel (n := 2) 5 (by decide +kernel)
theorem kf_R_7 : zd_F classes gd_T "CutPlanner$Row" 7 2 0 := ⟨R_R, F_R, 2, rfl, wi_R, by decide, Or.inl (gd_in1 102 (by decide +kernel) (by decide +kernel))⟩
theorem kf_R_13 : zd_F classes gd_T "CutPlanner$Row" 13 2 1 := ⟨R_R, F_R, 2, rfl, wi_R, by decide, Or.inl (gd_in1 104 (by decide +kernel) (by decide +kernel))⟩
theorem kp_R_13 : zd_FP classes gd_T "CutPlanner$Row" 13 2 1 := ⟨R_R, F_R, 2, ft_R, rfl, wi_R, by decide, Or.inl (gd_in1 104 (by decide +kernel) (by decide +kernel)), to_R, n_R, rfl, by decide +kernel⟩
theorem kf_S_9 : zd_F classes gd_T "CutPlanner$Search" 9 3 1 := ⟨R_S, F_S, 6, rfl, wi_S, by decide, Or.inl (gd_in1 77 (by decide +kernel) (by decide +kernel))⟩
theorem kf_S_15 : zd_F classes gd_T "CutPlanner$Search" 15 3 2 := ⟨R_S, F_S, 6, rfl, wi_S, by decide, Or.inl (gd_in1 78 (by decide +kernel) (by decide +kernel))⟩
theorem kf_S_18 : zd_F classes gd_T "CutPlanner$Search" 18 3 3 := ⟨R_S, F_S, 6, rfl, wi_S, by decide, Or.inl (gd_in1 79 (by decide +kernel) (by decide +kernel))⟩
theorem kf_S_21 : zd_F classes gd_T "CutPlanner$Search" 21 3 4 := ⟨R_S, F_S, 6, rfl, wi_S, by decide, Or.inl (gd_in1 80 (by decide +kernel) (by decide +kernel))⟩
theorem kf_S_24 : zd_F classes gd_T "CutPlanner$Search" 24 3 0 := ⟨R_S, F_S, 6, rfl, wi_S, by decide, Or.inl (gd_in1 76 (by decide +kernel) (by decide +kernel))⟩
theorem kc_S_34 : zd_C gd_T "CutPlanner$Search" 34 y_S_forget b_S_forget 2 (none) 0 := ⟨wc_S_forget, gd_in1 3 (by decide +kernel) (by decide +kernel), ⟨by decide, by decide⟩, by decide +kernel, by decide, Or.inl (gd_in1 190 (by decide +kernel) (by decide +kernel))⟩
theorem ki_S_forget : Cond.instanceMethod y_S_forget ∈ gd_T := gd_in1 192 (by decide +kernel) (by decide +kernel)
theorem ke_S_forget : Cond.selects y_S_forget.cls y_S_forget y_S_forget ∈ gd_T := gd_sel (n := 6) 0 (by decide +kernel)
theorem kc_S_37 : zd_C gd_T "CutPlanner$Search" 37 y_S_settle b_S_settle 3 (none) 2 := ⟨wc_S_settle, gd_in1 3 (by decide +kernel) (by decide +kernel), ⟨by decide, by decide⟩, by decide +kernel, by decide, Or.inl (gd_in1 194 (by decide +kernel) (by decide +kernel))⟩
theorem ki_S_settle : Cond.instanceMethod y_S_settle ∈ gd_T := gd_in1 196 (by decide +kernel) (by decide +kernel)
theorem ke_S_settle : Cond.selects y_S_settle.cls y_S_settle y_S_settle ∈ gd_T := gd_sel (n := 6) 1 (by decide +kernel)
theorem kc_S_41 : zd_C gd_T "CutPlanner$Search" 41 y_S_lastSpent b_S_lastSpent 1 (some .int) 0 := ⟨wc_S_lastSpent, gd_in1 3 (by decide +kernel) (by decide +kernel), ⟨by decide, by decide⟩, by decide +kernel, by decide, Or.inl (gd_in1 198 (by decide +kernel) (by decide +kernel))⟩
theorem ki_S_lastSpent : Cond.instanceMethod y_S_lastSpent ∈ gd_T := gd_in1 200 (by decide +kernel) (by decide +kernel)
theorem ke_S_lastSpent : Cond.selects y_S_lastSpent.cls y_S_lastSpent y_S_lastSpent ∈ gd_T := gd_sel (n := 6) 2 (by decide +kernel)
theorem kf_S_45 : zd_F classes gd_T "CutPlanner$Search" 45 3 5 := ⟨R_S, F_S, 6, rfl, wi_S, by decide, Or.inl (gd_in1 81 (by decide +kernel) (by decide +kernel))⟩
theorem kp_S_45 : zd_FP classes gd_T "CutPlanner$Search" 45 3 5 := ⟨R_S, F_S, 6, ft_S, rfl, wi_S, by decide, Or.inl (gd_in1 81 (by decide +kernel) (by decide +kernel)), to_S, n_S, rfl, by decide +kernel⟩
theorem kf_S_49 : zd_F classes gd_T "CutPlanner$Search" 49 1 3 := ⟨R_T, F_T, 6, rfl, wi_T, by decide, Or.inr ⟨"CutPlanner", gd_in1 43 (by decide +kernel) (by decide +kernel)⟩⟩
theorem kp_S_49 : zd_FP classes gd_T "CutPlanner$Search" 49 1 3 := ⟨R_T, F_T, 6, ft_T, rfl, wi_T, by decide, Or.inr ⟨"CutPlanner", gd_in1 43 (by decide +kernel) (by decide +kernel)⟩, to_T, n_T, rfl, by decide +kernel⟩
theorem kf_S_54 : zd_F classes gd_T "CutPlanner$Search" 54 1 0 := ⟨R_T, F_T, 6, rfl, wi_T, by decide, Or.inr ⟨"CutPlanner", gd_in1 35 (by decide +kernel) (by decide +kernel)⟩⟩
theorem kc_S_57 : zd_C gd_T "CutPlanner$Search" 57 y_S_spread b_S_spread 6 (none) 3 := ⟨wc_S_spread, gd_in1 3 (by decide +kernel) (by decide +kernel), ⟨by decide, by decide⟩, by decide +kernel, by decide, Or.inl (gd_in1 202 (by decide +kernel) (by decide +kernel))⟩
theorem ki_S_spread : Cond.instanceMethod y_S_spread ∈ gd_T := gd_in1 204 (by decide +kernel) (by decide +kernel)
theorem ke_S_spread : Cond.selects y_S_spread.cls y_S_spread y_S_spread ∈ gd_T := gd_sel (n := 6) 3 (by decide +kernel)
theorem kc_S_61 : zd_C gd_T "CutPlanner$Search" 61 y_P_hasAll b_P_hasAll 2 (some .boolean) 2 := ⟨wc_P_hasAll, gd_in1 1 (by decide +kernel) (by decide +kernel), ⟨by decide, by decide⟩, by decide +kernel, by decide, Or.inr ⟨"CutPlanner", gd_in3 49 (by decide +kernel) (by decide +kernel)⟩⟩
theorem ks_P_hasAll : Cond.static y_P_hasAll ∈ gd_T := gd_in1 211 (by decide +kernel) (by decide +kernel)
theorem kc_S_65 : zd_C gd_T "CutPlanner$Search" 65 y_T_isMet b_T_isMet 2 (some .boolean) 1 := ⟨wc_T_isMet, gd_in1 2 (by decide +kernel) (by decide +kernel), ⟨by decide, by decide⟩, by decide +kernel, by decide, Or.inl (gd_in1 225 (by decide +kernel) (by decide +kernel))⟩
theorem kc_S_69 : zd_C gd_T "CutPlanner$Search" 69 y_S_leastOnward b_S_leastOnward 4 (some .int) 1 := ⟨wc_S_leastOnward, gd_in1 3 (by decide +kernel) (by decide +kernel), ⟨by decide, by decide⟩, by decide +kernel, by decide, Or.inl (gd_in1 233 (by decide +kernel) (by decide +kernel))⟩
theorem ki_S_leastOnward : Cond.instanceMethod y_S_leastOnward ∈ gd_T := gd_in1 235 (by decide +kernel) (by decide +kernel)
theorem ke_S_leastOnward : Cond.selects y_S_leastOnward.cls y_S_leastOnward y_S_leastOnward ∈ gd_T := gd_sel (n := 6) 4 (by decide +kernel)
theorem kc_S_73 : zd_C gd_T "CutPlanner$Search" 73 y_R_append b_R_append 2 (none) 1 := ⟨wc_R_append, gd_in1 5 (by decide +kernel) (by decide +kernel), ⟨by decide, by decide⟩, by decide +kernel, by decide, Or.inl (gd_in1 237 (by decide +kernel) (by decide +kernel))⟩
theorem kc_S_79 : zd_C gd_T "CutPlanner$Search" 79 y_T_after b_T_after 3 (some .int) 2 := ⟨wc_T_after, gd_in1 2 (by decide +kernel) (by decide +kernel), ⟨by decide, by decide⟩, by decide +kernel, by decide, Or.inl (gd_in1 213 (by decide +kernel) (by decide +kernel))⟩
theorem kc_S_83 : zd_C gd_T "CutPlanner$Search" 83 y_T_allows b_T_allows 3 (some .boolean) 2 := ⟨wc_T_allows, gd_in1 2 (by decide +kernel) (by decide +kernel), ⟨by decide, by decide⟩, by decide +kernel, by decide, Or.inl (gd_in1 206 (by decide +kernel) (by decide +kernel))⟩
theorem kf_T_9 : zd_F classes gd_T "CutPlanner$Task" 9 1 0 := ⟨R_T, F_T, 6, rfl, wi_T, by decide, Or.inl (gd_in1 33 (by decide +kernel) (by decide +kernel))⟩
theorem kf_T_17 : zd_F classes gd_T "CutPlanner$Task" 17 1 1 := ⟨R_T, F_T, 6, rfl, wi_T, by decide, Or.inl (gd_in1 37 (by decide +kernel) (by decide +kernel))⟩
theorem kf_T_20 : zd_F classes gd_T "CutPlanner$Task" 20 1 2 := ⟨R_T, F_T, 6, rfl, wi_T, by decide, Or.inl (gd_in1 41 (by decide +kernel) (by decide +kernel))⟩
theorem kp_T_20 : zd_FP classes gd_T "CutPlanner$Task" 20 1 2 := ⟨R_T, F_T, 6, ft_T, rfl, wi_T, by decide, Or.inl (gd_in1 41 (by decide +kernel) (by decide +kernel)), to_T, n_T, rfl, by decide +kernel⟩
theorem kf_T_24 : zd_F classes gd_T "CutPlanner$Task" 24 1 4 := ⟨R_T, F_T, 6, rfl, wi_T, by decide, Or.inl (gd_in1 48 (by decide +kernel) (by decide +kernel))⟩
theorem kp_T_24 : zd_FP classes gd_T "CutPlanner$Task" 24 1 4 := ⟨R_T, F_T, 6, ft_T, rfl, wi_T, by decide, Or.inl (gd_in1 48 (by decide +kernel) (by decide +kernel)), to_T, n_T, rfl, by decide +kernel⟩
theorem kf_T_27 : zd_F classes gd_T "CutPlanner$Task" 27 1 5 := ⟨R_T, F_T, 6, rfl, wi_T, by decide, Or.inl (gd_in1 50 (by decide +kernel) (by decide +kernel))⟩
theorem kp_T_27 : zd_FP classes gd_T "CutPlanner$Task" 27 1 5 := ⟨R_T, F_T, 6, ft_T, rfl, wi_T, by decide, Or.inl (gd_in1 50 (by decide +kernel) (by decide +kernel)), to_T, n_T, rfl, by decide +kernel⟩
theorem kf_T_30 : zd_F classes gd_T "CutPlanner$Task" 30 1 3 := ⟨R_T, F_T, 6, rfl, wi_T, by decide, Or.inl (gd_in1 45 (by decide +kernel) (by decide +kernel))⟩
theorem kp_T_30 : zd_FP classes gd_T "CutPlanner$Task" 30 1 3 := ⟨R_T, F_T, 6, ft_T, rfl, wi_T, by decide, Or.inl (gd_in1 45 (by decide +kernel) (by decide +kernel)), to_T, n_T, rfl, by decide +kernel⟩
theorem kc_T_33 : zd_C gd_T "CutPlanner$Task" 33 y_P_hasAll b_P_hasAll 2 (some .boolean) 2 := ⟨wc_P_hasAll, gd_in1 1 (by decide +kernel) (by decide +kernel), ⟨by decide, by decide⟩, by decide +kernel, by decide, Or.inr ⟨"CutPlanner", gd_in1 210 (by decide +kernel) (by decide +kernel)⟩⟩
theorem kc_T_37 : zd_C gd_T "CutPlanner$Task" 37 y_P_has b_P_has 2 (some .boolean) 2 := ⟨wc_P_has, gd_in1 1 (by decide +kernel) (by decide +kernel), ⟨by decide, by decide⟩, by decide +kernel, by decide, Or.inr ⟨"CutPlanner", gd_in3 68 (by decide +kernel) (by decide +kernel)⟩⟩
theorem kc_L_7 : zd_C gd_T "CutPlannerLaw" 7 y_P_fact b_P_fact 4 (some .int) 2 := ⟨wc_P_fact, gd_in1 1 (by decide +kernel) (by decide +kernel), ⟨by decide, by decide⟩, by decide +kernel, by decide, Or.inl (gd_in2 111 (by decide +kernel) (by decide +kernel))⟩
theorem ki_P_fact : Cond.instanceMethod y_P_fact ∈ gd_T := gd_in2 112 (by decide +kernel) (by decide +kernel)
theorem ke_P_fact : Cond.selects y_P_fact.cls y_P_fact y_P_fact ∈ gd_T := gd_in2 113 (by decide +kernel) (by decide +kernel)
theorem kc_L_15 : zd_C gd_T "CutPlannerLaw" 15 y_P_action b_P_action 3 (some .int) 1 := ⟨wc_P_action, gd_in1 1 (by decide +kernel) (by decide +kernel), ⟨by decide, by decide⟩, by decide +kernel, by decide, Or.inl (gd_in2 195 (by decide +kernel) (by decide +kernel))⟩
theorem ki_P_action : Cond.instanceMethod y_P_action ∈ gd_T := gd_in2 196 (by decide +kernel) (by decide +kernel)
theorem ke_P_action : Cond.selects y_P_action.cls y_P_action y_P_action ∈ gd_T := gd_in2 197 (by decide +kernel) (by decide +kernel)
theorem kc_L_21 : zd_C gd_T "CutPlannerLaw" 21 y_P_link b_P_link 4 (none) 3 := ⟨wc_P_link, gd_in1 1 (by decide +kernel) (by decide +kernel), ⟨by decide, by decide⟩, by decide +kernel, by decide, Or.inl (gd_in2 224 (by decide +kernel) (by decide +kernel))⟩
theorem ki_P_link : Cond.instanceMethod y_P_link ∈ gd_T := gd_in2 225 (by decide +kernel) (by decide +kernel)
theorem ke_P_link : Cond.selects y_P_link.cls y_P_link y_P_link ∈ gd_T := gd_in2 226 (by decide +kernel) (by decide +kernel)
theorem kc_L_27 : zd_C gd_T "CutPlannerLaw" 27 y_P_holds b_P_holds 2 (some .boolean) 1 := ⟨wc_P_holds, gd_in1 1 (by decide +kernel) (by decide +kernel), ⟨by decide, by decide⟩, by decide +kernel, by decide, Or.inl (gd_in3 19 (by decide +kernel) (by decide +kernel))⟩
theorem ki_P_holds : Cond.instanceMethod y_P_holds ∈ gd_T := gd_in3 20 (by decide +kernel) (by decide +kernel)
theorem ke_P_holds : Cond.selects y_P_holds.cls y_P_holds y_P_holds ∈ gd_T := gd_in3 21 (by decide +kernel) (by decide +kernel)
theorem kc_L_31 : zd_C gd_T "CutPlannerLaw" 31 y_P_applicable b_P_applicable 2 (some .boolean) 1 := ⟨wc_P_applicable, gd_in1 1 (by decide +kernel) (by decide +kernel), ⟨by decide, by decide⟩, by decide +kernel, by decide, Or.inl (gd_in3 26 (by decide +kernel) (by decide +kernel))⟩
theorem ki_P_applicable : Cond.instanceMethod y_P_applicable ∈ gd_T := gd_in3 27 (by decide +kernel) (by decide +kernel)
theorem ke_P_applicable : Cond.selects y_P_applicable.cls y_P_applicable y_P_applicable ∈ gd_T := gd_in3 28 (by decide +kernel) (by decide +kernel)
theorem kc_L_34 : zd_C gd_T "CutPlannerLaw" 34 y_P_apply b_P_apply 2 (some .boolean) 1 := ⟨wc_P_apply, gd_in1 1 (by decide +kernel) (by decide +kernel), ⟨by decide, by decide⟩, by decide +kernel, by decide, Or.inl (gd_in3 33 (by decide +kernel) (by decide +kernel))⟩
theorem ki_P_apply : Cond.instanceMethod y_P_apply ∈ gd_T := gd_in3 34 (by decide +kernel) (by decide +kernel)
theorem ke_P_apply : Cond.selects y_P_apply.cls y_P_apply y_P_apply ∈ gd_T := gd_in3 35 (by decide +kernel) (by decide +kernel)
theorem kc_L_37 : zd_C gd_T "CutPlannerLaw" 37 y_P_together b_P_together 3 (some .boolean) 2 := ⟨wc_P_together, gd_in1 1 (by decide +kernel) (by decide +kernel), ⟨by decide, by decide⟩, by decide +kernel, by decide, Or.inl (gd_in3 41 (by decide +kernel) (by decide +kernel))⟩
theorem ki_P_together : Cond.instanceMethod y_P_together ∈ gd_T := gd_in3 42 (by decide +kernel) (by decide +kernel)
theorem ke_P_together : Cond.selects y_P_together.cls y_P_together y_P_together ∈ gd_T := gd_in3 43 (by decide +kernel) (by decide +kernel)
theorem kc_L_41 : zd_C gd_T "CutPlannerLaw" 41 y_P_level b_P_level 3 (some .int) 2 := ⟨wc_P_level, gd_in1 1 (by decide +kernel) (by decide +kernel), ⟨by decide, by decide⟩, by decide +kernel, by decide, Or.inl (gd_in3 53 (by decide +kernel) (by decide +kernel))⟩
theorem ki_P_level : Cond.instanceMethod y_P_level ∈ gd_T := gd_in3 54 (by decide +kernel) (by decide +kernel)
theorem ke_P_level : Cond.selects y_P_level.cls y_P_level y_P_level ∈ gd_T := gd_in3 55 (by decide +kernel) (by decide +kernel)
theorem kc_L_45 : zd_C gd_T "CutPlannerLaw" 45 y_P_landmark b_P_landmark 2 (some .boolean) 1 := ⟨wc_P_landmark, gd_in1 1 (by decide +kernel) (by decide +kernel), ⟨by decide, by decide⟩, by decide +kernel, by decide, Or.inl (gd_in3 60 (by decide +kernel) (by decide +kernel))⟩
theorem ki_P_landmark : Cond.instanceMethod y_P_landmark ∈ gd_T := gd_in3 61 (by decide +kernel) (by decide +kernel)
theorem ke_P_landmark : Cond.selects y_P_landmark.cls y_P_landmark y_P_landmark ∈ gd_T := gd_in3 62 (by decide +kernel) (by decide +kernel)
theorem kc_L_48 : zd_C gd_T "CutPlannerLaw" 48 y_P_draft b_P_draft 2 (some .int) 1 := ⟨wc_P_draft, gd_in1 1 (by decide +kernel) (by decide +kernel), ⟨by decide, by decide⟩, by decide +kernel, by decide, Or.inl (gd_in3 72 (by decide +kernel) (by decide +kernel))⟩
theorem ki_P_draft : Cond.instanceMethod y_P_draft ∈ gd_T := gd_in3 73 (by decide +kernel) (by decide +kernel)
theorem ke_P_draft : Cond.selects y_P_draft.cls y_P_draft y_P_draft ∈ gd_T := gd_in3 74 (by decide +kernel) (by decide +kernel)
end
section
theorem d_M_init_0 : decode b_M_init 0 = .ok (.aload_n 0, 1) := by decide +kernel
theorem d_M_init_1 : decode b_M_init 1 = .ok (.invokespecial 1, 3) := by decide +kernel
theorem d_M_init_4 : decode b_M_init 4 = .ok (.aload_n 0, 1) := by decide +kernel
theorem d_M_init_5 : decode b_M_init 5 = .ok (.bipush 12, 2) := by decide +kernel
theorem d_M_init_7 : decode b_M_init 7 = .ok (.newarray .int, 2) := by decide +kernel
theorem d_M_init_9 : decode b_M_init 9 = .ok (.putfield 7, 3) := by decide +kernel
theorem d_M_init_12 : decode b_M_init 12 = .ok (.aload_n 0, 1) := by decide +kernel
theorem d_M_init_13 : decode b_M_init 13 = .ok (.bipush 12, 2) := by decide +kernel
theorem d_M_init_15 : decode b_M_init 15 = .ok (.newarray .int, 2) := by decide +kernel
theorem d_M_init_17 : decode b_M_init 17 = .ok (.putfield 13, 3) := by decide +kernel
theorem d_M_init_20 : decode b_M_init 20 = .ok (.aload_n 0, 1) := by decide +kernel
theorem d_M_init_21 : decode b_M_init 21 = .ok (.bipush 12, 2) := by decide +kernel
theorem d_M_init_23 : decode b_M_init 23 = .ok (.newarray .int, 2) := by decide +kernel
theorem d_M_init_25 : decode b_M_init 25 = .ok (.putfield 16, 3) := by decide +kernel
theorem d_M_init_28 : decode b_M_init 28 = .ok (.aload_n 0, 1) := by decide +kernel
theorem d_M_init_29 : decode b_M_init 29 = .ok (.bipush 12, 2) := by decide +kernel
theorem d_M_init_31 : decode b_M_init 31 = .ok (.newarray .int, 2) := by decide +kernel
theorem d_M_init_33 : decode b_M_init 33 = .ok (.putfield 19, 3) := by decide +kernel
theorem d_M_init_36 : decode b_M_init 36 = .ok (.aload_n 0, 1) := by decide +kernel
theorem d_M_init_37 : decode b_M_init 37 = .ok (.sipush 1024, 3) := by decide +kernel
theorem d_M_init_40 : decode b_M_init 40 = .ok (.newarray .int, 2) := by decide +kernel
theorem d_M_init_42 : decode b_M_init 42 = .ok (.putfield 22, 3) := by decide +kernel
theorem d_M_init_45 : decode b_M_init 45 = .ok (.aload_n 0, 1) := by decide +kernel
theorem d_M_init_46 : decode b_M_init 46 = .ok (.bipush 24, 2) := by decide +kernel
theorem d_M_init_48 : decode b_M_init 48 = .ok (.newarray .int, 2) := by decide +kernel
theorem d_M_init_50 : decode b_M_init 50 = .ok (.putfield 25, 3) := by decide +kernel
theorem d_M_init_53 : decode b_M_init 53 = .ok (.aload_n 0, 1) := by decide +kernel
theorem d_M_init_54 : decode b_M_init 54 = .ok (.sipush 1024, 3) := by decide +kernel
theorem d_M_init_57 : decode b_M_init 57 = .ok (.newarray .int, 2) := by decide +kernel
theorem d_M_init_59 : decode b_M_init 59 = .ok (.putfield 28, 3) := by decide +kernel
theorem d_M_init_62 : decode b_M_init 62 = .ok (.aload_n 0, 1) := by decide +kernel
theorem d_M_init_63 : decode b_M_init 63 = .ok (.sipush 1024, 3) := by decide +kernel
theorem d_M_init_66 : decode b_M_init 66 = .ok (.newarray .boolean, 2) := by decide +kernel
theorem d_M_init_68 : decode b_M_init 68 = .ok (.putfield 31, 3) := by decide +kernel
theorem d_M_init_71 : decode b_M_init 71 = .ok (.aload_n 0, 1) := by decide +kernel
theorem d_M_init_72 : decode b_M_init 72 = .ok (.bipush 12, 2) := by decide +kernel
theorem d_M_init_74 : decode b_M_init 74 = .ok (.newarray .int, 2) := by decide +kernel
theorem d_M_init_76 : decode b_M_init 76 = .ok (.putfield 35, 3) := by decide +kernel
theorem d_M_init_79 : decode b_M_init 79 = .ok (.aload_n 0, 1) := by decide +kernel
theorem d_M_init_80 : decode b_M_init 80 = .ok (.bipush 10, 2) := by decide +kernel
theorem d_M_init_82 : decode b_M_init 82 = .ok (.newarray .int, 2) := by decide +kernel
theorem d_M_init_84 : decode b_M_init 84 = .ok (.putfield 38, 3) := by decide +kernel
theorem d_M_init_87 : decode b_M_init 87 = .ok (.aload_n 0, 1) := by decide +kernel
theorem d_M_init_88 : decode b_M_init 88 = .ok (.sipush 128, 3) := by decide +kernel
theorem d_M_init_91 : decode b_M_init 91 = .ok (.newarray .int, 2) := by decide +kernel
theorem d_M_init_93 : decode b_M_init 93 = .ok (.putfield 41, 3) := by decide +kernel
theorem d_M_init_96 : decode b_M_init 96 = .ok (.return_, 1) := by decide +kernel
theorem d_M_thrown_0 : decode b_M_thrown 0 = .ok (.aload_n 0, 1) := by decide +kernel
theorem d_M_thrown_1 : decode b_M_thrown 1 = .ok (.getfield 44, 3) := by decide +kernel
theorem d_M_thrown_4 : decode b_M_thrown 4 = .ok (.ireturn, 1) := by decide +kernel
theorem d_M_noFact_0 : decode b_M_noFact 0 = .ok (.iload_n 1, 1) := by decide +kernel
theorem d_M_noFact_1 : decode b_M_noFact 1 = .ok (.ifCond .lt 11, 3) := by decide +kernel
theorem d_M_noFact_4 : decode b_M_noFact 4 = .ok (.iload_n 1, 1) := by decide +kernel
theorem d_M_noFact_5 : decode b_M_noFact 5 = .ok (.aload_n 0, 1) := by decide +kernel
theorem d_M_noFact_6 : decode b_M_noFact 6 = .ok (.getfield 48, 3) := by decide +kernel
theorem d_M_noFact_9 : decode b_M_noFact 9 = .ok (.if_icmp .lt 7, 3) := by decide +kernel
theorem d_M_noFact_12 : decode b_M_noFact 12 = .ok (.iconst 1, 1) := by decide +kernel
theorem d_M_noFact_13 : decode b_M_noFact 13 = .ok (.goto 4, 3) := by decide +kernel
theorem d_M_noFact_16 : decode b_M_noFact 16 = .ok (.iconst 0, 1) := by decide +kernel
theorem d_M_noFact_17 : decode b_M_noFact 17 = .ok (.ireturn, 1) := by decide +kernel
theorem d_M_noAction_0 : decode b_M_noAction 0 = .ok (.iload_n 1, 1) := by decide +kernel
theorem d_M_noAction_1 : decode b_M_noAction 1 = .ok (.ifCond .lt 11, 3) := by decide +kernel
theorem d_M_noAction_4 : decode b_M_noAction 4 = .ok (.iload_n 1, 1) := by decide +kernel
theorem d_M_noAction_5 : decode b_M_noAction 5 = .ok (.aload_n 0, 1) := by decide +kernel
theorem d_M_noAction_6 : decode b_M_noAction 6 = .ok (.getfield 51, 3) := by decide +kernel
theorem d_M_noAction_9 : decode b_M_noAction 9 = .ok (.if_icmp .lt 7, 3) := by decide +kernel
theorem d_M_noAction_12 : decode b_M_noAction 12 = .ok (.iconst 1, 1) := by decide +kernel
theorem d_M_noAction_13 : decode b_M_noAction 13 = .ok (.goto 4, 3) := by decide +kernel
theorem d_M_noAction_16 : decode b_M_noAction 16 = .ok (.iconst 0, 1) := by decide +kernel
theorem d_M_noAction_17 : decode b_M_noAction 17 = .ok (.ireturn, 1) := by decide +kernel
theorem d_M_changed_0 : decode b_M_changed 0 = .ok (.aload_n 0, 1) := by decide +kernel
theorem d_M_changed_1 : decode b_M_changed 1 = .ok (.iconst 0, 1) := by decide +kernel
theorem d_M_changed_2 : decode b_M_changed 2 = .ok (.putfield 54, 3) := by decide +kernel
theorem d_M_changed_5 : decode b_M_changed 5 = .ok (.aload_n 0, 1) := by decide +kernel
theorem d_M_changed_6 : decode b_M_changed 6 = .ok (.aload_n 0, 1) := by decide +kernel
theorem d_M_changed_7 : decode b_M_changed 7 = .ok (.getfield 57, 3) := by decide +kernel
theorem d_M_changed_10 : decode b_M_changed 10 = .ok (.putfield 60, 3) := by decide +kernel
theorem d_M_changed_13 : decode b_M_changed 13 = .ok (.return_, 1) := by decide +kernel
theorem d_M_fact_0 : decode b_M_fact 0 = .ok (.aload_n 0, 1) := by decide +kernel
theorem d_M_fact_1 : decode b_M_fact 1 = .ok (.aload_n 0, 1) := by decide +kernel
theorem d_M_fact_2 : decode b_M_fact 2 = .ok (.getfield 48, 3) := by decide +kernel
theorem d_M_fact_5 : decode b_M_fact 5 = .ok (.bipush 10, 2) := by decide +kernel
theorem d_M_fact_7 : decode b_M_fact 7 = .ok (.if_icmp .ne 7, 3) := by decide +kernel
theorem d_M_fact_10 : decode b_M_fact 10 = .ok (.iconst 1, 1) := by decide +kernel
theorem d_M_fact_11 : decode b_M_fact 11 = .ok (.goto 4, 3) := by decide +kernel
theorem d_M_fact_14 : decode b_M_fact 14 = .ok (.iconst 0, 1) := by decide +kernel
theorem d_M_fact_15 : decode b_M_fact 15 = .ok (.putfield 44, 3) := by decide +kernel
theorem d_M_fact_18 : decode b_M_fact 18 = .ok (.aload_n 0, 1) := by decide +kernel
theorem d_M_fact_19 : decode b_M_fact 19 = .ok (.getfield 44, 3) := by decide +kernel
theorem d_M_fact_22 : decode b_M_fact 22 = .ok (.ifCond .le 5, 3) := by decide +kernel
theorem d_M_fact_25 : decode b_M_fact 25 = .ok (.iconst 0, 1) := by decide +kernel
theorem d_M_fact_26 : decode b_M_fact 26 = .ok (.ireturn, 1) := by decide +kernel
theorem d_M_fact_27 : decode b_M_fact 27 = .ok (.iconst 1, 1) := by decide +kernel
theorem d_M_fact_28 : decode b_M_fact 28 = .ok (.aload_n 0, 1) := by decide +kernel
theorem d_M_fact_29 : decode b_M_fact 29 = .ok (.getfield 48, 3) := by decide +kernel
theorem d_M_fact_32 : decode b_M_fact 32 = .ok (.ishl, 1) := by decide +kernel
theorem d_M_fact_33 : decode b_M_fact 33 = .ok (.istore_n 3, 1) := by decide +kernel
theorem d_M_fact_34 : decode b_M_fact 34 = .ok (.aload_n 0, 1) := by decide +kernel
theorem d_M_fact_35 : decode b_M_fact 35 = .ok (.iload_n 1, 1) := by decide +kernel
theorem d_M_fact_36 : decode b_M_fact 36 = .ok (.ifCond .eq 12, 3) := by decide +kernel
theorem d_M_fact_39 : decode b_M_fact 39 = .ok (.aload_n 0, 1) := by decide +kernel
theorem d_M_fact_40 : decode b_M_fact 40 = .ok (.getfield 57, 3) := by decide +kernel
theorem d_M_fact_43 : decode b_M_fact 43 = .ok (.iload_n 3, 1) := by decide +kernel
theorem d_M_fact_44 : decode b_M_fact 44 = .ok (.ior, 1) := by decide +kernel
theorem d_M_fact_45 : decode b_M_fact 45 = .ok (.goto 7, 3) := by decide +kernel
theorem d_M_fact_48 : decode b_M_fact 48 = .ok (.aload_n 0, 1) := by decide +kernel
theorem d_M_fact_49 : decode b_M_fact 49 = .ok (.getfield 57, 3) := by decide +kernel
theorem d_M_fact_52 : decode b_M_fact 52 = .ok (.putfield 57, 3) := by decide +kernel
theorem d_M_fact_55 : decode b_M_fact 55 = .ok (.aload_n 0, 1) := by decide +kernel
theorem d_M_fact_56 : decode b_M_fact 56 = .ok (.iload_n 2, 1) := by decide +kernel
theorem d_M_fact_57 : decode b_M_fact 57 = .ok (.ifCond .eq 12, 3) := by decide +kernel
theorem d_M_fact_60 : decode b_M_fact 60 = .ok (.aload_n 0, 1) := by decide +kernel
theorem d_M_fact_61 : decode b_M_fact 61 = .ok (.getfield 63, 3) := by decide +kernel
theorem d_M_fact_64 : decode b_M_fact 64 = .ok (.iload_n 3, 1) := by decide +kernel
theorem d_M_fact_65 : decode b_M_fact 65 = .ok (.ior, 1) := by decide +kernel
theorem d_M_fact_66 : decode b_M_fact 66 = .ok (.goto 7, 3) := by decide +kernel
theorem d_M_fact_69 : decode b_M_fact 69 = .ok (.aload_n 0, 1) := by decide +kernel
theorem d_M_fact_70 : decode b_M_fact 70 = .ok (.getfield 63, 3) := by decide +kernel
theorem d_M_fact_73 : decode b_M_fact 73 = .ok (.putfield 63, 3) := by decide +kernel
theorem d_M_fact_76 : decode b_M_fact 76 = .ok (.aload_n 0, 1) := by decide +kernel
theorem d_M_fact_77 : decode b_M_fact 77 = .ok (.dup, 1) := by decide +kernel
theorem d_M_fact_78 : decode b_M_fact 78 = .ok (.getfield 48, 3) := by decide +kernel
theorem d_M_fact_81 : decode b_M_fact 81 = .ok (.iconst 1, 1) := by decide +kernel
theorem d_M_fact_82 : decode b_M_fact 82 = .ok (.iadd, 1) := by decide +kernel
theorem d_M_fact_83 : decode b_M_fact 83 = .ok (.putfield 48, 3) := by decide +kernel
theorem d_M_fact_86 : decode b_M_fact 86 = .ok (.aload_n 0, 1) := by decide +kernel
theorem d_M_fact_87 : decode b_M_fact 87 = .ok (.invokevirtual 66, 3) := by decide +kernel
theorem d_M_fact_90 : decode b_M_fact 90 = .ok (.aload_n 0, 1) := by decide +kernel
theorem d_M_fact_91 : decode b_M_fact 91 = .ok (.getfield 48, 3) := by decide +kernel
theorem d_M_fact_94 : decode b_M_fact 94 = .ok (.iconst 1, 1) := by decide +kernel
theorem d_M_fact_95 : decode b_M_fact 95 = .ok (.isub, 1) := by decide +kernel
theorem d_M_fact_96 : decode b_M_fact 96 = .ok (.ireturn, 1) := by decide +kernel
theorem d_M_action_0 : decode b_M_action 0 = .ok (.aload_n 0, 1) := by decide +kernel
theorem d_M_action_1 : decode b_M_action 1 = .ok (.iload_n 1, 1) := by decide +kernel
theorem d_M_action_2 : decode b_M_action 2 = .ok (.iconst 1, 1) := by decide +kernel
theorem d_M_action_3 : decode b_M_action 3 = .ok (.if_icmp .lt 9, 3) := by decide +kernel
theorem d_M_action_6 : decode b_M_action 6 = .ok (.iload_n 1, 1) := by decide +kernel
theorem d_M_action_7 : decode b_M_action 7 = .ok (.bipush 9, 2) := by decide +kernel
theorem d_M_action_9 : decode b_M_action 9 = .ok (.if_icmp .le 7, 3) := by decide +kernel
theorem d_M_action_12 : decode b_M_action 12 = .ok (.iconst 1, 1) := by decide +kernel
theorem d_M_action_13 : decode b_M_action 13 = .ok (.goto 17, 3) := by decide +kernel
theorem d_M_action_16 : decode b_M_action 16 = .ok (.aload_n 0, 1) := by decide +kernel
theorem d_M_action_17 : decode b_M_action 17 = .ok (.getfield 51, 3) := by decide +kernel
theorem d_M_action_20 : decode b_M_action 20 = .ok (.bipush 12, 2) := by decide +kernel
theorem d_M_action_22 : decode b_M_action 22 = .ok (.if_icmp .ne 7, 3) := by decide +kernel
theorem d_M_action_25 : decode b_M_action 25 = .ok (.iconst 2, 1) := by decide +kernel
theorem d_M_action_26 : decode b_M_action 26 = .ok (.goto 4, 3) := by decide +kernel
theorem d_M_action_29 : decode b_M_action 29 = .ok (.iconst 0, 1) := by decide +kernel
theorem d_M_action_30 : decode b_M_action 30 = .ok (.putfield 44, 3) := by decide +kernel
theorem d_M_action_33 : decode b_M_action 33 = .ok (.aload_n 0, 1) := by decide +kernel
theorem d_M_action_34 : decode b_M_action 34 = .ok (.getfield 44, 3) := by decide +kernel
theorem d_M_action_37 : decode b_M_action 37 = .ok (.ifCond .le 5, 3) := by decide +kernel
theorem d_M_action_40 : decode b_M_action 40 = .ok (.iconst 0, 1) := by decide +kernel
theorem d_M_action_41 : decode b_M_action 41 = .ok (.ireturn, 1) := by decide +kernel
theorem d_M_action_42 : decode b_M_action 42 = .ok (.aload_n 0, 1) := by decide +kernel
theorem d_M_action_43 : decode b_M_action 43 = .ok (.getfield 7, 3) := by decide +kernel
theorem d_M_action_46 : decode b_M_action 46 = .ok (.aload_n 0, 1) := by decide +kernel
theorem d_M_action_47 : decode b_M_action 47 = .ok (.getfield 51, 3) := by decide +kernel
theorem d_M_action_50 : decode b_M_action 50 = .ok (.iload_n 1, 1) := by decide +kernel
theorem d_M_action_51 : decode b_M_action 51 = .ok (.iastore, 1) := by decide +kernel
theorem d_M_action_52 : decode b_M_action 52 = .ok (.aload_n 0, 1) := by decide +kernel
theorem d_M_action_53 : decode b_M_action 53 = .ok (.getfield 13, 3) := by decide +kernel
theorem d_M_action_56 : decode b_M_action 56 = .ok (.aload_n 0, 1) := by decide +kernel
theorem d_M_action_57 : decode b_M_action 57 = .ok (.getfield 51, 3) := by decide +kernel
theorem d_M_action_60 : decode b_M_action 60 = .ok (.iconst 0, 1) := by decide +kernel
theorem d_M_action_61 : decode b_M_action 61 = .ok (.iastore, 1) := by decide +kernel
theorem d_M_action_62 : decode b_M_action 62 = .ok (.aload_n 0, 1) := by decide +kernel
theorem d_M_action_63 : decode b_M_action 63 = .ok (.getfield 16, 3) := by decide +kernel
theorem d_M_action_66 : decode b_M_action 66 = .ok (.aload_n 0, 1) := by decide +kernel
theorem d_M_action_67 : decode b_M_action 67 = .ok (.getfield 51, 3) := by decide +kernel
theorem d_M_action_70 : decode b_M_action 70 = .ok (.iconst 0, 1) := by decide +kernel
theorem d_M_action_71 : decode b_M_action 71 = .ok (.iastore, 1) := by decide +kernel
theorem d_M_action_72 : decode b_M_action 72 = .ok (.aload_n 0, 1) := by decide +kernel
theorem d_M_action_73 : decode b_M_action 73 = .ok (.getfield 19, 3) := by decide +kernel
theorem d_M_action_76 : decode b_M_action 76 = .ok (.aload_n 0, 1) := by decide +kernel
theorem d_M_action_77 : decode b_M_action 77 = .ok (.getfield 51, 3) := by decide +kernel
theorem d_M_action_80 : decode b_M_action 80 = .ok (.iconst 0, 1) := by decide +kernel
theorem d_M_action_81 : decode b_M_action 81 = .ok (.iastore, 1) := by decide +kernel
theorem d_M_action_82 : decode b_M_action 82 = .ok (.aload_n 0, 1) := by decide +kernel
theorem d_M_action_83 : decode b_M_action 83 = .ok (.dup, 1) := by decide +kernel
theorem d_M_action_84 : decode b_M_action 84 = .ok (.getfield 51, 3) := by decide +kernel
theorem d_M_action_87 : decode b_M_action 87 = .ok (.iconst 1, 1) := by decide +kernel
theorem d_M_action_88 : decode b_M_action 88 = .ok (.iadd, 1) := by decide +kernel
theorem d_M_action_89 : decode b_M_action 89 = .ok (.putfield 51, 3) := by decide +kernel
theorem d_M_action_92 : decode b_M_action 92 = .ok (.aload_n 0, 1) := by decide +kernel
theorem d_M_action_93 : decode b_M_action 93 = .ok (.invokevirtual 66, 3) := by decide +kernel
theorem d_M_action_96 : decode b_M_action 96 = .ok (.aload_n 0, 1) := by decide +kernel
theorem d_M_action_97 : decode b_M_action 97 = .ok (.getfield 51, 3) := by decide +kernel
theorem d_M_action_100 : decode b_M_action 100 = .ok (.iconst 1, 1) := by decide +kernel
theorem d_M_action_101 : decode b_M_action 101 = .ok (.isub, 1) := by decide +kernel
theorem d_M_action_102 : decode b_M_action 102 = .ok (.ireturn, 1) := by decide +kernel
theorem d_M_link_0 : decode b_M_link 0 = .ok (.aload_n 0, 1) := by decide +kernel
theorem d_M_link_1 : decode b_M_link 1 = .ok (.aload_n 0, 1) := by decide +kernel
theorem d_M_link_2 : decode b_M_link 2 = .ok (.iload_n 2, 1) := by decide +kernel
theorem d_M_link_3 : decode b_M_link 3 = .ok (.invokevirtual 69, 3) := by decide +kernel
theorem d_M_link_6 : decode b_M_link 6 = .ok (.ifCond .ne 11, 3) := by decide +kernel
theorem d_M_link_9 : decode b_M_link 9 = .ok (.aload_n 0, 1) := by decide +kernel
theorem d_M_link_10 : decode b_M_link 10 = .ok (.iload_n 3, 1) := by decide +kernel
theorem d_M_link_11 : decode b_M_link 11 = .ok (.invokevirtual 73, 3) := by decide +kernel
theorem d_M_link_14 : decode b_M_link 14 = .ok (.ifCond .eq 7, 3) := by decide +kernel
theorem d_M_link_17 : decode b_M_link 17 = .ok (.iconst 1, 1) := by decide +kernel
theorem d_M_link_18 : decode b_M_link 18 = .ok (.goto 17, 3) := by decide +kernel
theorem d_M_link_21 : decode b_M_link 21 = .ok (.iload_n 1, 1) := by decide +kernel
theorem d_M_link_22 : decode b_M_link 22 = .ok (.ifCond .lt 8, 3) := by decide +kernel
theorem d_M_link_25 : decode b_M_link 25 = .ok (.iload_n 1, 1) := by decide +kernel
theorem d_M_link_26 : decode b_M_link 26 = .ok (.iconst 2, 1) := by decide +kernel
theorem d_M_link_27 : decode b_M_link 27 = .ok (.if_icmp .le 7, 3) := by decide +kernel
theorem d_M_link_30 : decode b_M_link 30 = .ok (.iconst 2, 1) := by decide +kernel
theorem d_M_link_31 : decode b_M_link 31 = .ok (.goto 4, 3) := by decide +kernel
theorem d_M_link_34 : decode b_M_link 34 = .ok (.iconst 0, 1) := by decide +kernel
theorem d_M_link_35 : decode b_M_link 35 = .ok (.putfield 44, 3) := by decide +kernel
theorem d_M_link_38 : decode b_M_link 38 = .ok (.aload_n 0, 1) := by decide +kernel
theorem d_M_link_39 : decode b_M_link 39 = .ok (.getfield 44, 3) := by decide +kernel
theorem d_M_link_42 : decode b_M_link 42 = .ok (.ifCond .le 4, 3) := by decide +kernel
theorem d_M_link_45 : decode b_M_link 45 = .ok (.return_, 1) := by decide +kernel
theorem d_M_link_46 : decode b_M_link 46 = .ok (.iconst 1, 1) := by decide +kernel
theorem d_M_link_47 : decode b_M_link 47 = .ok (.iload_n 3, 1) := by decide +kernel
theorem d_M_link_48 : decode b_M_link 48 = .ok (.ishl, 1) := by decide +kernel
theorem d_M_link_49 : decode b_M_link 49 = .ok (.istore 4, 2) := by decide +kernel
theorem d_M_link_51 : decode b_M_link 51 = .ok (.iload_n 1, 1) := by decide +kernel
theorem d_M_link_52 : decode b_M_link 52 = .ok (.ifCond .ne 12, 3) := by decide +kernel
theorem d_M_link_55 : decode b_M_link 55 = .ok (.aload_n 0, 1) := by decide +kernel
theorem d_M_link_56 : decode b_M_link 56 = .ok (.getfield 13, 3) := by decide +kernel
theorem d_M_link_59 : decode b_M_link 59 = .ok (.iload_n 2, 1) := by decide +kernel
theorem d_M_link_60 : decode b_M_link 60 = .ok (.iaload, 1) := by decide +kernel
theorem d_M_link_61 : decode b_M_link 61 = .ok (.goto 23, 3) := by decide +kernel
theorem d_M_link_64 : decode b_M_link 64 = .ok (.iload_n 1, 1) := by decide +kernel
theorem d_M_link_65 : decode b_M_link 65 = .ok (.iconst 1, 1) := by decide +kernel
theorem d_M_link_66 : decode b_M_link 66 = .ok (.if_icmp .ne 12, 3) := by decide +kernel
theorem d_M_link_69 : decode b_M_link 69 = .ok (.aload_n 0, 1) := by decide +kernel
theorem d_M_link_70 : decode b_M_link 70 = .ok (.getfield 16, 3) := by decide +kernel
theorem d_M_link_73 : decode b_M_link 73 = .ok (.iload_n 2, 1) := by decide +kernel
theorem d_M_link_74 : decode b_M_link 74 = .ok (.iaload, 1) := by decide +kernel
theorem d_M_link_75 : decode b_M_link 75 = .ok (.goto 9, 3) := by decide +kernel
theorem d_M_link_78 : decode b_M_link 78 = .ok (.aload_n 0, 1) := by decide +kernel
theorem d_M_link_79 : decode b_M_link 79 = .ok (.getfield 19, 3) := by decide +kernel
theorem d_M_link_82 : decode b_M_link 82 = .ok (.iload_n 2, 1) := by decide +kernel
theorem d_M_link_83 : decode b_M_link 83 = .ok (.iaload, 1) := by decide +kernel
theorem d_M_link_84 : decode b_M_link 84 = .ok (.istore 5, 2) := by decide +kernel
theorem d_M_link_86 : decode b_M_link 86 = .ok (.iload 5, 2) := by decide +kernel
theorem d_M_link_88 : decode b_M_link 88 = .ok (.iload 4, 2) := by decide +kernel
theorem d_M_link_90 : decode b_M_link 90 = .ok (.iand, 1) := by decide +kernel
theorem d_M_link_91 : decode b_M_link 91 = .ok (.ifCond .eq 9, 3) := by decide +kernel
theorem d_M_link_94 : decode b_M_link 94 = .ok (.aload_n 0, 1) := by decide +kernel
theorem d_M_link_95 : decode b_M_link 95 = .ok (.iconst 3, 1) := by decide +kernel
theorem d_M_link_96 : decode b_M_link 96 = .ok (.putfield 44, 3) := by decide +kernel
theorem d_M_link_99 : decode b_M_link 99 = .ok (.return_, 1) := by decide +kernel
theorem d_M_link_100 : decode b_M_link 100 = .ok (.iload_n 1, 1) := by decide +kernel
theorem d_M_link_101 : decode b_M_link 101 = .ok (.ifCond .ne 17, 3) := by decide +kernel
theorem d_M_link_104 : decode b_M_link 104 = .ok (.aload_n 0, 1) := by decide +kernel
theorem d_M_link_105 : decode b_M_link 105 = .ok (.getfield 13, 3) := by decide +kernel
theorem d_M_link_108 : decode b_M_link 108 = .ok (.iload_n 2, 1) := by decide +kernel
theorem d_M_link_109 : decode b_M_link 109 = .ok (.iload 5, 2) := by decide +kernel
theorem d_M_link_111 : decode b_M_link 111 = .ok (.iload 4, 2) := by decide +kernel
theorem d_M_link_113 : decode b_M_link 113 = .ok (.ior, 1) := by decide +kernel
theorem d_M_link_114 : decode b_M_link 114 = .ok (.iastore, 1) := by decide +kernel
theorem d_M_link_115 : decode b_M_link 115 = .ok (.goto 33, 3) := by decide +kernel
theorem d_M_link_118 : decode b_M_link 118 = .ok (.iload_n 1, 1) := by decide +kernel
theorem d_M_link_119 : decode b_M_link 119 = .ok (.iconst 1, 1) := by decide +kernel
theorem d_M_link_120 : decode b_M_link 120 = .ok (.if_icmp .ne 17, 3) := by decide +kernel
theorem d_M_link_123 : decode b_M_link 123 = .ok (.aload_n 0, 1) := by decide +kernel
theorem d_M_link_124 : decode b_M_link 124 = .ok (.getfield 16, 3) := by decide +kernel
theorem d_M_link_127 : decode b_M_link 127 = .ok (.iload_n 2, 1) := by decide +kernel
theorem d_M_link_128 : decode b_M_link 128 = .ok (.iload 5, 2) := by decide +kernel
theorem d_M_link_130 : decode b_M_link 130 = .ok (.iload 4, 2) := by decide +kernel
theorem d_M_link_132 : decode b_M_link 132 = .ok (.ior, 1) := by decide +kernel
theorem d_M_link_133 : decode b_M_link 133 = .ok (.iastore, 1) := by decide +kernel
theorem d_M_link_134 : decode b_M_link 134 = .ok (.goto 14, 3) := by decide +kernel
theorem d_M_link_137 : decode b_M_link 137 = .ok (.aload_n 0, 1) := by decide +kernel
theorem d_M_link_138 : decode b_M_link 138 = .ok (.getfield 19, 3) := by decide +kernel
theorem d_M_link_141 : decode b_M_link 141 = .ok (.iload_n 2, 1) := by decide +kernel
theorem d_M_link_142 : decode b_M_link 142 = .ok (.iload 5, 2) := by decide +kernel
theorem d_M_link_144 : decode b_M_link 144 = .ok (.iload 4, 2) := by decide +kernel
theorem d_M_link_146 : decode b_M_link 146 = .ok (.ior, 1) := by decide +kernel
theorem d_M_link_147 : decode b_M_link 147 = .ok (.iastore, 1) := by decide +kernel
theorem d_M_link_148 : decode b_M_link 148 = .ok (.aload_n 0, 1) := by decide +kernel
theorem d_M_link_149 : decode b_M_link 149 = .ok (.invokevirtual 66, 3) := by decide +kernel
theorem d_M_link_152 : decode b_M_link 152 = .ok (.return_, 1) := by decide +kernel
theorem d_M_can_0 : decode b_M_can 0 = .ok (.aload_n 0, 1) := by decide +kernel
theorem d_M_can_1 : decode b_M_can 1 = .ok (.getfield 13, 3) := by decide +kernel
theorem d_M_can_4 : decode b_M_can 4 = .ok (.iload_n 1, 1) := by decide +kernel
theorem d_M_can_5 : decode b_M_can 5 = .ok (.iaload, 1) := by decide +kernel
theorem d_M_can_6 : decode b_M_can 6 = .ok (.iload_n 2, 1) := by decide +kernel
theorem d_M_can_7 : decode b_M_can 7 = .ok (.iconst (-1), 1) := by decide +kernel
theorem d_M_can_8 : decode b_M_can 8 = .ok (.ixor, 1) := by decide +kernel
theorem d_M_can_9 : decode b_M_can 9 = .ok (.iand, 1) := by decide +kernel
theorem d_M_can_10 : decode b_M_can 10 = .ok (.ifCond .ne 7, 3) := by decide +kernel
theorem d_M_can_13 : decode b_M_can 13 = .ok (.iconst 1, 1) := by decide +kernel
theorem d_M_can_14 : decode b_M_can 14 = .ok (.goto 4, 3) := by decide +kernel
theorem d_M_can_17 : decode b_M_can 17 = .ok (.iconst 0, 1) := by decide +kernel
theorem d_M_can_18 : decode b_M_can 18 = .ok (.ireturn, 1) := by decide +kernel
theorem d_M_after_0 : decode b_M_after 0 = .ok (.iload_n 2, 1) := by decide +kernel
theorem d_M_after_1 : decode b_M_after 1 = .ok (.aload_n 0, 1) := by decide +kernel
theorem d_M_after_2 : decode b_M_after 2 = .ok (.getfield 19, 3) := by decide +kernel
theorem d_M_after_5 : decode b_M_after 5 = .ok (.iload_n 1, 1) := by decide +kernel
theorem d_M_after_6 : decode b_M_after 6 = .ok (.iaload, 1) := by decide +kernel
theorem d_M_after_7 : decode b_M_after 7 = .ok (.iconst (-1), 1) := by decide +kernel
theorem d_M_after_8 : decode b_M_after 8 = .ok (.ixor, 1) := by decide +kernel
theorem d_M_after_9 : decode b_M_after 9 = .ok (.iand, 1) := by decide +kernel
theorem d_M_after_10 : decode b_M_after 10 = .ok (.aload_n 0, 1) := by decide +kernel
theorem d_M_after_11 : decode b_M_after 11 = .ok (.getfield 16, 3) := by decide +kernel
theorem d_M_after_14 : decode b_M_after 14 = .ok (.iload_n 1, 1) := by decide +kernel
theorem d_M_after_15 : decode b_M_after 15 = .ok (.iaload, 1) := by decide +kernel
theorem d_M_after_16 : decode b_M_after 16 = .ok (.ior, 1) := by decide +kernel
theorem d_M_after_17 : decode b_M_after 17 = .ok (.ireturn, 1) := by decide +kernel
theorem d_M_isMet_0 : decode b_M_isMet 0 = .ok (.aload_n 0, 1) := by decide +kernel
theorem d_M_isMet_1 : decode b_M_isMet 1 = .ok (.getfield 63, 3) := by decide +kernel
theorem d_M_isMet_4 : decode b_M_isMet 4 = .ok (.iload_n 1, 1) := by decide +kernel
theorem d_M_isMet_5 : decode b_M_isMet 5 = .ok (.iconst (-1), 1) := by decide +kernel
theorem d_M_isMet_6 : decode b_M_isMet 6 = .ok (.ixor, 1) := by decide +kernel
theorem d_M_isMet_7 : decode b_M_isMet 7 = .ok (.iand, 1) := by decide +kernel
theorem d_M_isMet_8 : decode b_M_isMet 8 = .ok (.ifCond .ne 7, 3) := by decide +kernel
theorem d_M_isMet_11 : decode b_M_isMet 11 = .ok (.iconst 1, 1) := by decide +kernel
theorem d_M_isMet_12 : decode b_M_isMet 12 = .ok (.goto 4, 3) := by decide +kernel
theorem d_M_isMet_15 : decode b_M_isMet 15 = .ok (.iconst 0, 1) := by decide +kernel
theorem d_M_isMet_16 : decode b_M_isMet 16 = .ok (.ireturn, 1) := by decide +kernel
theorem d_M_reset_0 : decode b_M_reset 0 = .ok (.aload_n 0, 1) := by decide +kernel
theorem d_M_reset_1 : decode b_M_reset 1 = .ok (.iconst 0, 1) := by decide +kernel
theorem d_M_reset_2 : decode b_M_reset 2 = .ok (.putfield 44, 3) := by decide +kernel
theorem d_M_reset_5 : decode b_M_reset 5 = .ok (.aload_n 0, 1) := by decide +kernel
theorem d_M_reset_6 : decode b_M_reset 6 = .ok (.aload_n 0, 1) := by decide +kernel
theorem d_M_reset_7 : decode b_M_reset 7 = .ok (.getfield 57, 3) := by decide +kernel
theorem d_M_reset_10 : decode b_M_reset 10 = .ok (.putfield 60, 3) := by decide +kernel
theorem d_M_reset_13 : decode b_M_reset 13 = .ok (.return_, 1) := by decide +kernel
theorem d_M_holds_0 : decode b_M_holds 0 = .ok (.aload_n 0, 1) := by decide +kernel
theorem d_M_holds_1 : decode b_M_holds 1 = .ok (.aload_n 0, 1) := by decide +kernel
theorem d_M_holds_2 : decode b_M_holds 2 = .ok (.iload_n 1, 1) := by decide +kernel
theorem d_M_holds_3 : decode b_M_holds 3 = .ok (.invokevirtual 73, 3) := by decide +kernel
theorem d_M_holds_6 : decode b_M_holds 6 = .ok (.ifCond .eq 7, 3) := by decide +kernel
theorem d_M_holds_9 : decode b_M_holds 9 = .ok (.iconst 1, 1) := by decide +kernel
theorem d_M_holds_10 : decode b_M_holds 10 = .ok (.goto 4, 3) := by decide +kernel
theorem d_M_holds_13 : decode b_M_holds 13 = .ok (.iconst 0, 1) := by decide +kernel
theorem d_M_holds_14 : decode b_M_holds 14 = .ok (.putfield 44, 3) := by decide +kernel
theorem d_M_holds_17 : decode b_M_holds 17 = .ok (.aload_n 0, 1) := by decide +kernel
theorem d_M_holds_18 : decode b_M_holds 18 = .ok (.getfield 44, 3) := by decide +kernel
theorem d_M_holds_21 : decode b_M_holds 21 = .ok (.ifCond .ne 19, 3) := by decide +kernel
theorem d_M_holds_24 : decode b_M_holds 24 = .ok (.aload_n 0, 1) := by decide +kernel
theorem d_M_holds_25 : decode b_M_holds 25 = .ok (.getfield 60, 3) := by decide +kernel
theorem d_M_holds_28 : decode b_M_holds 28 = .ok (.iload_n 1, 1) := by decide +kernel
theorem d_M_holds_29 : decode b_M_holds 29 = .ok (.ishr, 1) := by decide +kernel
theorem d_M_holds_30 : decode b_M_holds 30 = .ok (.iconst 1, 1) := by decide +kernel
theorem d_M_holds_31 : decode b_M_holds 31 = .ok (.iand, 1) := by decide +kernel
theorem d_M_holds_32 : decode b_M_holds 32 = .ok (.iconst 1, 1) := by decide +kernel
theorem d_M_holds_33 : decode b_M_holds 33 = .ok (.if_icmp .ne 7, 3) := by decide +kernel
theorem d_M_holds_36 : decode b_M_holds 36 = .ok (.iconst 1, 1) := by decide +kernel
theorem d_M_holds_37 : decode b_M_holds 37 = .ok (.goto 4, 3) := by decide +kernel
theorem d_M_holds_40 : decode b_M_holds 40 = .ok (.iconst 0, 1) := by decide +kernel
theorem d_M_holds_41 : decode b_M_holds 41 = .ok (.ireturn, 1) := by decide +kernel
theorem d_M_applicable_0 : decode b_M_applicable 0 = .ok (.aload_n 0, 1) := by decide +kernel
theorem d_M_applicable_1 : decode b_M_applicable 1 = .ok (.aload_n 0, 1) := by decide +kernel
theorem d_M_applicable_2 : decode b_M_applicable 2 = .ok (.iload_n 1, 1) := by decide +kernel
theorem d_M_applicable_3 : decode b_M_applicable 3 = .ok (.invokevirtual 69, 3) := by decide +kernel
theorem d_M_applicable_6 : decode b_M_applicable 6 = .ok (.ifCond .eq 7, 3) := by decide +kernel
theorem d_M_applicable_9 : decode b_M_applicable 9 = .ok (.iconst 1, 1) := by decide +kernel
theorem d_M_applicable_10 : decode b_M_applicable 10 = .ok (.goto 4, 3) := by decide +kernel
theorem d_M_applicable_13 : decode b_M_applicable 13 = .ok (.iconst 0, 1) := by decide +kernel
theorem d_M_applicable_14 : decode b_M_applicable 14 = .ok (.putfield 44, 3) := by decide +kernel
theorem d_M_applicable_17 : decode b_M_applicable 17 = .ok (.aload_n 0, 1) := by decide +kernel
theorem d_M_applicable_18 : decode b_M_applicable 18 = .ok (.getfield 44, 3) := by decide +kernel
theorem d_M_applicable_21 : decode b_M_applicable 21 = .ok (.ifCond .ne 19, 3) := by decide +kernel
theorem d_M_applicable_24 : decode b_M_applicable 24 = .ok (.aload_n 0, 1) := by decide +kernel
theorem d_M_applicable_25 : decode b_M_applicable 25 = .ok (.iload_n 1, 1) := by decide +kernel
theorem d_M_applicable_26 : decode b_M_applicable 26 = .ok (.aload_n 0, 1) := by decide +kernel
theorem d_M_applicable_27 : decode b_M_applicable 27 = .ok (.getfield 60, 3) := by decide +kernel
theorem d_M_applicable_30 : decode b_M_applicable 30 = .ok (.invokevirtual 76, 3) := by decide +kernel
theorem d_M_applicable_33 : decode b_M_applicable 33 = .ok (.ifCond .eq 7, 3) := by decide +kernel
theorem d_M_applicable_36 : decode b_M_applicable 36 = .ok (.iconst 1, 1) := by decide +kernel
theorem d_M_applicable_37 : decode b_M_applicable 37 = .ok (.goto 4, 3) := by decide +kernel
theorem d_M_applicable_40 : decode b_M_applicable 40 = .ok (.iconst 0, 1) := by decide +kernel
theorem d_M_applicable_41 : decode b_M_applicable 41 = .ok (.ireturn, 1) := by decide +kernel
theorem d_M_apply_0 : decode b_M_apply 0 = .ok (.aload_n 0, 1) := by decide +kernel
theorem d_M_apply_1 : decode b_M_apply 1 = .ok (.aload_n 0, 1) := by decide +kernel
theorem d_M_apply_2 : decode b_M_apply 2 = .ok (.iload_n 1, 1) := by decide +kernel
theorem d_M_apply_3 : decode b_M_apply 3 = .ok (.invokevirtual 69, 3) := by decide +kernel
theorem d_M_apply_6 : decode b_M_apply 6 = .ok (.ifCond .eq 7, 3) := by decide +kernel
theorem d_M_apply_9 : decode b_M_apply 9 = .ok (.iconst 1, 1) := by decide +kernel
theorem d_M_apply_10 : decode b_M_apply 10 = .ok (.goto 20, 3) := by decide +kernel
theorem d_M_apply_13 : decode b_M_apply 13 = .ok (.aload_n 0, 1) := by decide +kernel
theorem d_M_apply_14 : decode b_M_apply 14 = .ok (.iload_n 1, 1) := by decide +kernel
theorem d_M_apply_15 : decode b_M_apply 15 = .ok (.aload_n 0, 1) := by decide +kernel
theorem d_M_apply_16 : decode b_M_apply 16 = .ok (.getfield 60, 3) := by decide +kernel
theorem d_M_apply_19 : decode b_M_apply 19 = .ok (.invokevirtual 76, 3) := by decide +kernel
theorem d_M_apply_22 : decode b_M_apply 22 = .ok (.ifCond .ne 7, 3) := by decide +kernel
theorem d_M_apply_25 : decode b_M_apply 25 = .ok (.iconst 2, 1) := by decide +kernel
theorem d_M_apply_26 : decode b_M_apply 26 = .ok (.goto 4, 3) := by decide +kernel
theorem d_M_apply_29 : decode b_M_apply 29 = .ok (.iconst 0, 1) := by decide +kernel
theorem d_M_apply_30 : decode b_M_apply 30 = .ok (.putfield 44, 3) := by decide +kernel
theorem d_M_apply_33 : decode b_M_apply 33 = .ok (.aload_n 0, 1) := by decide +kernel
theorem d_M_apply_34 : decode b_M_apply 34 = .ok (.getfield 44, 3) := by decide +kernel
theorem d_M_apply_37 : decode b_M_apply 37 = .ok (.ifCond .le 5, 3) := by decide +kernel
theorem d_M_apply_40 : decode b_M_apply 40 = .ok (.iconst 0, 1) := by decide +kernel
theorem d_M_apply_41 : decode b_M_apply 41 = .ok (.ireturn, 1) := by decide +kernel
theorem d_M_apply_42 : decode b_M_apply 42 = .ok (.aload_n 0, 1) := by decide +kernel
theorem d_M_apply_43 : decode b_M_apply 43 = .ok (.aload_n 0, 1) := by decide +kernel
theorem d_M_apply_44 : decode b_M_apply 44 = .ok (.iload_n 1, 1) := by decide +kernel
theorem d_M_apply_45 : decode b_M_apply 45 = .ok (.aload_n 0, 1) := by decide +kernel
theorem d_M_apply_46 : decode b_M_apply 46 = .ok (.getfield 60, 3) := by decide +kernel
theorem d_M_apply_49 : decode b_M_apply 49 = .ok (.invokevirtual 80, 3) := by decide +kernel
theorem d_M_apply_52 : decode b_M_apply 52 = .ok (.putfield 60, 3) := by decide +kernel
theorem d_M_apply_55 : decode b_M_apply 55 = .ok (.aload_n 0, 1) := by decide +kernel
theorem d_M_apply_56 : decode b_M_apply 56 = .ok (.aload_n 0, 1) := by decide +kernel
theorem d_M_apply_57 : decode b_M_apply 57 = .ok (.getfield 60, 3) := by decide +kernel
theorem d_M_apply_60 : decode b_M_apply 60 = .ok (.invokevirtual 84, 3) := by decide +kernel
theorem d_M_apply_63 : decode b_M_apply 63 = .ok (.ireturn, 1) := by decide +kernel
theorem d_M_findCosts_0 : decode b_M_findCosts 0 = .ok (.iconst 1, 1) := by decide +kernel
theorem d_M_findCosts_1 : decode b_M_findCosts 1 = .ok (.aload_n 0, 1) := by decide +kernel
theorem d_M_findCosts_2 : decode b_M_findCosts 2 = .ok (.getfield 48, 3) := by decide +kernel
theorem d_M_findCosts_5 : decode b_M_findCosts 5 = .ok (.ishl, 1) := by decide +kernel
theorem d_M_findCosts_6 : decode b_M_findCosts 6 = .ok (.istore_n 1, 1) := by decide +kernel
theorem d_M_findCosts_7 : decode b_M_findCosts 7 = .ok (.iconst 0, 1) := by decide +kernel
theorem d_M_findCosts_8 : decode b_M_findCosts 8 = .ok (.istore_n 2, 1) := by decide +kernel
theorem d_M_findCosts_9 : decode b_M_findCosts 9 = .ok (.iload_n 2, 1) := by decide +kernel
theorem d_M_findCosts_10 : decode b_M_findCosts 10 = .ok (.iload_n 1, 1) := by decide +kernel
theorem d_M_findCosts_11 : decode b_M_findCosts 11 = .ok (.if_icmp .ge 29, 3) := by decide +kernel
theorem d_M_findCosts_14 : decode b_M_findCosts 14 = .ok (.aload_n 0, 1) := by decide +kernel
theorem d_M_findCosts_15 : decode b_M_findCosts 15 = .ok (.getfield 28, 3) := by decide +kernel
theorem d_M_findCosts_18 : decode b_M_findCosts 18 = .ok (.iload_n 2, 1) := by decide +kernel
theorem d_M_findCosts_19 : decode b_M_findCosts 19 = .ok (.aload_n 0, 1) := by decide +kernel
theorem d_M_findCosts_20 : decode b_M_findCosts 20 = .ok (.iload_n 2, 1) := by decide +kernel
theorem d_M_findCosts_21 : decode b_M_findCosts 21 = .ok (.invokevirtual 84, 3) := by decide +kernel
theorem d_M_findCosts_24 : decode b_M_findCosts 24 = .ok (.ifCond .eq 7, 3) := by decide +kernel
theorem d_M_findCosts_27 : decode b_M_findCosts 27 = .ok (.iconst 0, 1) := by decide +kernel
theorem d_M_findCosts_28 : decode b_M_findCosts 28 = .ok (.goto 5, 3) := by decide +kernel
theorem d_M_findCosts_31 : decode b_M_findCosts 31 = .ok (.ldc 87, 2) := by decide +kernel
theorem d_M_findCosts_33 : decode b_M_findCosts 33 = .ok (.iastore, 1) := by decide +kernel
theorem d_M_findCosts_34 : decode b_M_findCosts 34 = .ok (.iinc 2 1, 3) := by decide +kernel
theorem d_M_findCosts_37 : decode b_M_findCosts 37 = .ok (.goto (-28), 3) := by decide +kernel
theorem d_M_findCosts_40 : decode b_M_findCosts 40 = .ok (.iconst 1, 1) := by decide +kernel
theorem d_M_findCosts_41 : decode b_M_findCosts 41 = .ok (.istore_n 2, 1) := by decide +kernel
theorem d_M_findCosts_42 : decode b_M_findCosts 42 = .ok (.iload_n 2, 1) := by decide +kernel
theorem d_M_findCosts_43 : decode b_M_findCosts 43 = .ok (.ifCond .eq 106, 3) := by decide +kernel
theorem d_M_findCosts_46 : decode b_M_findCosts 46 = .ok (.iconst 0, 1) := by decide +kernel
theorem d_M_findCosts_47 : decode b_M_findCosts 47 = .ok (.istore_n 2, 1) := by decide +kernel
theorem d_M_findCosts_48 : decode b_M_findCosts 48 = .ok (.iconst 0, 1) := by decide +kernel
theorem d_M_findCosts_49 : decode b_M_findCosts 49 = .ok (.istore_n 3, 1) := by decide +kernel
theorem d_M_findCosts_50 : decode b_M_findCosts 50 = .ok (.iload_n 3, 1) := by decide +kernel
theorem d_M_findCosts_51 : decode b_M_findCosts 51 = .ok (.iload_n 1, 1) := by decide +kernel
theorem d_M_findCosts_52 : decode b_M_findCosts 52 = .ok (.if_icmp .ge 94, 3) := by decide +kernel
theorem d_M_findCosts_55 : decode b_M_findCosts 55 = .ok (.iconst 0, 1) := by decide +kernel
theorem d_M_findCosts_56 : decode b_M_findCosts 56 = .ok (.istore 4, 2) := by decide +kernel
theorem d_M_findCosts_58 : decode b_M_findCosts 58 = .ok (.iload 4, 2) := by decide +kernel
theorem d_M_findCosts_60 : decode b_M_findCosts 60 = .ok (.aload_n 0, 1) := by decide +kernel
theorem d_M_findCosts_61 : decode b_M_findCosts 61 = .ok (.getfield 51, 3) := by decide +kernel
theorem d_M_findCosts_64 : decode b_M_findCosts 64 = .ok (.if_icmp .ge 76, 3) := by decide +kernel
theorem d_M_findCosts_67 : decode b_M_findCosts 67 = .ok (.aload_n 0, 1) := by decide +kernel
theorem d_M_findCosts_68 : decode b_M_findCosts 68 = .ok (.iload 4, 2) := by decide +kernel
theorem d_M_findCosts_70 : decode b_M_findCosts 70 = .ok (.iload_n 3, 1) := by decide +kernel
theorem d_M_findCosts_71 : decode b_M_findCosts 71 = .ok (.invokevirtual 76, 3) := by decide +kernel
theorem d_M_findCosts_74 : decode b_M_findCosts 74 = .ok (.ifCond .eq 60, 3) := by decide +kernel
theorem d_M_findCosts_77 : decode b_M_findCosts 77 = .ok (.aload_n 0, 1) := by decide +kernel
theorem d_M_findCosts_78 : decode b_M_findCosts 78 = .ok (.getfield 7, 3) := by decide +kernel
theorem d_M_findCosts_81 : decode b_M_findCosts 81 = .ok (.iload 4, 2) := by decide +kernel
theorem d_M_findCosts_83 : decode b_M_findCosts 83 = .ok (.iaload, 1) := by decide +kernel
theorem d_M_findCosts_84 : decode b_M_findCosts 84 = .ok (.aload_n 0, 1) := by decide +kernel
theorem d_M_findCosts_85 : decode b_M_findCosts 85 = .ok (.getfield 28, 3) := by decide +kernel
theorem d_M_findCosts_88 : decode b_M_findCosts 88 = .ok (.aload_n 0, 1) := by decide +kernel
theorem d_M_findCosts_89 : decode b_M_findCosts 89 = .ok (.iload 4, 2) := by decide +kernel
theorem d_M_findCosts_91 : decode b_M_findCosts 91 = .ok (.iload_n 3, 1) := by decide +kernel
theorem d_M_findCosts_92 : decode b_M_findCosts 92 = .ok (.invokevirtual 80, 3) := by decide +kernel
theorem d_M_findCosts_95 : decode b_M_findCosts 95 = .ok (.iaload, 1) := by decide +kernel
theorem d_M_findCosts_96 : decode b_M_findCosts 96 = .ok (.iadd, 1) := by decide +kernel
theorem d_M_findCosts_97 : decode b_M_findCosts 97 = .ok (.aload_n 0, 1) := by decide +kernel
theorem d_M_findCosts_98 : decode b_M_findCosts 98 = .ok (.getfield 28, 3) := by decide +kernel
theorem d_M_findCosts_101 : decode b_M_findCosts 101 = .ok (.iload_n 3, 1) := by decide +kernel
theorem d_M_findCosts_102 : decode b_M_findCosts 102 = .ok (.iaload, 1) := by decide +kernel
theorem d_M_findCosts_103 : decode b_M_findCosts 103 = .ok (.if_icmp .ge 31, 3) := by decide +kernel
theorem d_M_findCosts_106 : decode b_M_findCosts 106 = .ok (.aload_n 0, 1) := by decide +kernel
theorem d_M_findCosts_107 : decode b_M_findCosts 107 = .ok (.getfield 28, 3) := by decide +kernel
theorem d_M_findCosts_110 : decode b_M_findCosts 110 = .ok (.iload_n 3, 1) := by decide +kernel
theorem d_M_findCosts_111 : decode b_M_findCosts 111 = .ok (.aload_n 0, 1) := by decide +kernel
theorem d_M_findCosts_112 : decode b_M_findCosts 112 = .ok (.getfield 7, 3) := by decide +kernel
theorem d_M_findCosts_115 : decode b_M_findCosts 115 = .ok (.iload 4, 2) := by decide +kernel
theorem d_M_findCosts_117 : decode b_M_findCosts 117 = .ok (.iaload, 1) := by decide +kernel
theorem d_M_findCosts_118 : decode b_M_findCosts 118 = .ok (.aload_n 0, 1) := by decide +kernel
theorem d_M_findCosts_119 : decode b_M_findCosts 119 = .ok (.getfield 28, 3) := by decide +kernel
theorem d_M_findCosts_122 : decode b_M_findCosts 122 = .ok (.aload_n 0, 1) := by decide +kernel
theorem d_M_findCosts_123 : decode b_M_findCosts 123 = .ok (.iload 4, 2) := by decide +kernel
theorem d_M_findCosts_125 : decode b_M_findCosts 125 = .ok (.iload_n 3, 1) := by decide +kernel
theorem d_M_findCosts_126 : decode b_M_findCosts 126 = .ok (.invokevirtual 80, 3) := by decide +kernel
theorem d_M_findCosts_129 : decode b_M_findCosts 129 = .ok (.iaload, 1) := by decide +kernel
theorem d_M_findCosts_130 : decode b_M_findCosts 130 = .ok (.iadd, 1) := by decide +kernel
theorem d_M_findCosts_131 : decode b_M_findCosts 131 = .ok (.iastore, 1) := by decide +kernel
theorem d_M_findCosts_132 : decode b_M_findCosts 132 = .ok (.iconst 1, 1) := by decide +kernel
theorem d_M_findCosts_133 : decode b_M_findCosts 133 = .ok (.istore_n 2, 1) := by decide +kernel
theorem d_M_findCosts_134 : decode b_M_findCosts 134 = .ok (.iinc 4 1, 3) := by decide +kernel
theorem d_M_findCosts_137 : decode b_M_findCosts 137 = .ok (.goto (-79), 3) := by decide +kernel
theorem d_M_findCosts_140 : decode b_M_findCosts 140 = .ok (.iinc 3 1, 3) := by decide +kernel
theorem d_M_findCosts_143 : decode b_M_findCosts 143 = .ok (.goto (-93), 3) := by decide +kernel
theorem d_M_findCosts_146 : decode b_M_findCosts 146 = .ok (.goto (-104), 3) := by decide +kernel
theorem d_M_findCosts_149 : decode b_M_findCosts 149 = .ok (.return_, 1) := by decide +kernel
theorem d_M_bestAction_0 : decode b_M_bestAction 0 = .ok (.iconst 0, 1) := by decide +kernel
theorem d_M_bestAction_1 : decode b_M_bestAction 1 = .ok (.istore_n 2, 1) := by decide +kernel
theorem d_M_bestAction_2 : decode b_M_bestAction 2 = .ok (.iload_n 2, 1) := by decide +kernel
theorem d_M_bestAction_3 : decode b_M_bestAction 3 = .ok (.aload_n 0, 1) := by decide +kernel
theorem d_M_bestAction_4 : decode b_M_bestAction 4 = .ok (.getfield 51, 3) := by decide +kernel
theorem d_M_bestAction_7 : decode b_M_bestAction 7 = .ok (.if_icmp .ge 47, 3) := by decide +kernel
theorem d_M_bestAction_10 : decode b_M_bestAction 10 = .ok (.aload_n 0, 1) := by decide +kernel
theorem d_M_bestAction_11 : decode b_M_bestAction 11 = .ok (.iload_n 2, 1) := by decide +kernel
theorem d_M_bestAction_12 : decode b_M_bestAction 12 = .ok (.iload_n 1, 1) := by decide +kernel
theorem d_M_bestAction_13 : decode b_M_bestAction 13 = .ok (.invokevirtual 76, 3) := by decide +kernel
theorem d_M_bestAction_16 : decode b_M_bestAction 16 = .ok (.ifCond .eq 32, 3) := by decide +kernel
theorem d_M_bestAction_19 : decode b_M_bestAction 19 = .ok (.aload_n 0, 1) := by decide +kernel
theorem d_M_bestAction_20 : decode b_M_bestAction 20 = .ok (.getfield 7, 3) := by decide +kernel
theorem d_M_bestAction_23 : decode b_M_bestAction 23 = .ok (.iload_n 2, 1) := by decide +kernel
theorem d_M_bestAction_24 : decode b_M_bestAction 24 = .ok (.iaload, 1) := by decide +kernel
theorem d_M_bestAction_25 : decode b_M_bestAction 25 = .ok (.aload_n 0, 1) := by decide +kernel
theorem d_M_bestAction_26 : decode b_M_bestAction 26 = .ok (.getfield 28, 3) := by decide +kernel
theorem d_M_bestAction_29 : decode b_M_bestAction 29 = .ok (.aload_n 0, 1) := by decide +kernel
theorem d_M_bestAction_30 : decode b_M_bestAction 30 = .ok (.iload_n 2, 1) := by decide +kernel
theorem d_M_bestAction_31 : decode b_M_bestAction 31 = .ok (.iload_n 1, 1) := by decide +kernel
theorem d_M_bestAction_32 : decode b_M_bestAction 32 = .ok (.invokevirtual 80, 3) := by decide +kernel
theorem d_M_bestAction_35 : decode b_M_bestAction 35 = .ok (.iaload, 1) := by decide +kernel
theorem d_M_bestAction_36 : decode b_M_bestAction 36 = .ok (.iadd, 1) := by decide +kernel
theorem d_M_bestAction_37 : decode b_M_bestAction 37 = .ok (.aload_n 0, 1) := by decide +kernel
theorem d_M_bestAction_38 : decode b_M_bestAction 38 = .ok (.getfield 28, 3) := by decide +kernel
theorem d_M_bestAction_41 : decode b_M_bestAction 41 = .ok (.iload_n 1, 1) := by decide +kernel
theorem d_M_bestAction_42 : decode b_M_bestAction 42 = .ok (.iaload, 1) := by decide +kernel
theorem d_M_bestAction_43 : decode b_M_bestAction 43 = .ok (.if_icmp .ne 5, 3) := by decide +kernel
theorem d_M_bestAction_46 : decode b_M_bestAction 46 = .ok (.iload_n 2, 1) := by decide +kernel
theorem d_M_bestAction_47 : decode b_M_bestAction 47 = .ok (.ireturn, 1) := by decide +kernel
theorem d_M_bestAction_48 : decode b_M_bestAction 48 = .ok (.iinc 2 1, 3) := by decide +kernel
theorem d_M_bestAction_51 : decode b_M_bestAction 51 = .ok (.goto (-49), 3) := by decide +kernel
theorem d_M_bestAction_54 : decode b_M_bestAction 54 = .ok (.iconst (-1), 1) := by decide +kernel
theorem d_M_bestAction_55 : decode b_M_bestAction 55 = .ok (.ireturn, 1) := by decide +kernel
theorem d_M_plan_0 : decode b_M_plan 0 = .ok (.aload_n 0, 1) := by decide +kernel
theorem d_M_plan_1 : decode b_M_plan 1 = .ok (.iconst 0, 1) := by decide +kernel
theorem d_M_plan_2 : decode b_M_plan 2 = .ok (.putfield 44, 3) := by decide +kernel
theorem d_M_plan_5 : decode b_M_plan 5 = .ok (.aload_n 0, 1) := by decide +kernel
theorem d_M_plan_6 : decode b_M_plan 6 = .ok (.invokevirtual 88, 3) := by decide +kernel
theorem d_M_plan_9 : decode b_M_plan 9 = .ok (.aload_n 0, 1) := by decide +kernel
theorem d_M_plan_10 : decode b_M_plan 10 = .ok (.iconst 0, 1) := by decide +kernel
theorem d_M_plan_11 : decode b_M_plan 11 = .ok (.putfield 91, 3) := by decide +kernel
theorem d_M_plan_14 : decode b_M_plan 14 = .ok (.aload_n 0, 1) := by decide +kernel
theorem d_M_plan_15 : decode b_M_plan 15 = .ok (.getfield 28, 3) := by decide +kernel
theorem d_M_plan_18 : decode b_M_plan 18 = .ok (.aload_n 0, 1) := by decide +kernel
theorem d_M_plan_19 : decode b_M_plan 19 = .ok (.getfield 60, 3) := by decide +kernel
theorem d_M_plan_22 : decode b_M_plan 22 = .ok (.iaload, 1) := by decide +kernel
theorem d_M_plan_23 : decode b_M_plan 23 = .ok (.ldc 87, 2) := by decide +kernel
theorem d_M_plan_25 : decode b_M_plan 25 = .ok (.if_icmp .lt 5, 3) := by decide +kernel
theorem d_M_plan_28 : decode b_M_plan 28 = .ok (.iconst (-1), 1) := by decide +kernel
theorem d_M_plan_29 : decode b_M_plan 29 = .ok (.ireturn, 1) := by decide +kernel
theorem d_M_plan_30 : decode b_M_plan 30 = .ok (.aload_n 0, 1) := by decide +kernel
theorem d_M_plan_31 : decode b_M_plan 31 = .ok (.getfield 60, 3) := by decide +kernel
theorem d_M_plan_34 : decode b_M_plan 34 = .ok (.istore_n 1, 1) := by decide +kernel
theorem d_M_plan_35 : decode b_M_plan 35 = .ok (.aload_n 0, 1) := by decide +kernel
theorem d_M_plan_36 : decode b_M_plan 36 = .ok (.getfield 28, 3) := by decide +kernel
theorem d_M_plan_39 : decode b_M_plan 39 = .ok (.iload_n 1, 1) := by decide +kernel
theorem d_M_plan_40 : decode b_M_plan 40 = .ok (.iaload, 1) := by decide +kernel
theorem d_M_plan_41 : decode b_M_plan 41 = .ok (.ifCond .le 39, 3) := by decide +kernel
theorem d_M_plan_44 : decode b_M_plan 44 = .ok (.aload_n 0, 1) := by decide +kernel
theorem d_M_plan_45 : decode b_M_plan 45 = .ok (.iload_n 1, 1) := by decide +kernel
theorem d_M_plan_46 : decode b_M_plan 46 = .ok (.invokevirtual 94, 3) := by decide +kernel
theorem d_M_plan_49 : decode b_M_plan 49 = .ok (.istore_n 2, 1) := by decide +kernel
theorem d_M_plan_50 : decode b_M_plan 50 = .ok (.aload_n 0, 1) := by decide +kernel
theorem d_M_plan_51 : decode b_M_plan 51 = .ok (.getfield 22, 3) := by decide +kernel
theorem d_M_plan_54 : decode b_M_plan 54 = .ok (.aload_n 0, 1) := by decide +kernel
theorem d_M_plan_55 : decode b_M_plan 55 = .ok (.getfield 91, 3) := by decide +kernel
theorem d_M_plan_58 : decode b_M_plan 58 = .ok (.iload_n 2, 1) := by decide +kernel
theorem d_M_plan_59 : decode b_M_plan 59 = .ok (.iastore, 1) := by decide +kernel
theorem d_M_plan_60 : decode b_M_plan 60 = .ok (.aload_n 0, 1) := by decide +kernel
theorem d_M_plan_61 : decode b_M_plan 61 = .ok (.dup, 1) := by decide +kernel
theorem d_M_plan_62 : decode b_M_plan 62 = .ok (.getfield 91, 3) := by decide +kernel
theorem d_M_plan_65 : decode b_M_plan 65 = .ok (.iconst 1, 1) := by decide +kernel
theorem d_M_plan_66 : decode b_M_plan 66 = .ok (.iadd, 1) := by decide +kernel
theorem d_M_plan_67 : decode b_M_plan 67 = .ok (.putfield 91, 3) := by decide +kernel
theorem d_M_plan_70 : decode b_M_plan 70 = .ok (.aload_n 0, 1) := by decide +kernel
theorem d_M_plan_71 : decode b_M_plan 71 = .ok (.iload_n 2, 1) := by decide +kernel
theorem d_M_plan_72 : decode b_M_plan 72 = .ok (.iload_n 1, 1) := by decide +kernel
theorem d_M_plan_73 : decode b_M_plan 73 = .ok (.invokevirtual 80, 3) := by decide +kernel
theorem d_M_plan_76 : decode b_M_plan 76 = .ok (.istore_n 1, 1) := by decide +kernel
theorem d_M_plan_77 : decode b_M_plan 77 = .ok (.goto (-42), 3) := by decide +kernel
theorem d_M_plan_80 : decode b_M_plan 80 = .ok (.aload_n 0, 1) := by decide +kernel
theorem d_M_plan_81 : decode b_M_plan 81 = .ok (.getfield 28, 3) := by decide +kernel
theorem d_M_plan_84 : decode b_M_plan 84 = .ok (.aload_n 0, 1) := by decide +kernel
theorem d_M_plan_85 : decode b_M_plan 85 = .ok (.getfield 60, 3) := by decide +kernel
theorem d_M_plan_88 : decode b_M_plan 88 = .ok (.iaload, 1) := by decide +kernel
theorem d_M_plan_89 : decode b_M_plan 89 = .ok (.ireturn, 1) := by decide +kernel
theorem d_M_length_0 : decode b_M_length 0 = .ok (.aload_n 0, 1) := by decide +kernel
theorem d_M_length_1 : decode b_M_length 1 = .ok (.iconst 0, 1) := by decide +kernel
theorem d_M_length_2 : decode b_M_length 2 = .ok (.putfield 44, 3) := by decide +kernel
theorem d_M_length_5 : decode b_M_length 5 = .ok (.aload_n 0, 1) := by decide +kernel
theorem d_M_length_6 : decode b_M_length 6 = .ok (.getfield 91, 3) := by decide +kernel
theorem d_M_length_9 : decode b_M_length 9 = .ok (.ireturn, 1) := by decide +kernel
theorem d_M_step_0 : decode b_M_step 0 = .ok (.aload_n 0, 1) := by decide +kernel
theorem d_M_step_1 : decode b_M_step 1 = .ok (.iconst 0, 1) := by decide +kernel
theorem d_M_step_2 : decode b_M_step 2 = .ok (.putfield 44, 3) := by decide +kernel
theorem d_M_step_5 : decode b_M_step 5 = .ok (.iload_n 1, 1) := by decide +kernel
theorem d_M_step_6 : decode b_M_step 6 = .ok (.ifCond .lt 11, 3) := by decide +kernel
theorem d_M_step_9 : decode b_M_step 9 = .ok (.iload_n 1, 1) := by decide +kernel
theorem d_M_step_10 : decode b_M_step 10 = .ok (.aload_n 0, 1) := by decide +kernel
theorem d_M_step_11 : decode b_M_step 11 = .ok (.getfield 91, 3) := by decide +kernel
theorem d_M_step_14 : decode b_M_step 14 = .ok (.if_icmp .lt 7, 3) := by decide +kernel
theorem d_M_step_17 : decode b_M_step 17 = .ok (.iconst (-1), 1) := by decide +kernel
theorem d_M_step_18 : decode b_M_step 18 = .ok (.goto 9, 3) := by decide +kernel
theorem d_M_step_21 : decode b_M_step 21 = .ok (.aload_n 0, 1) := by decide +kernel
theorem d_M_step_22 : decode b_M_step 22 = .ok (.getfield 22, 3) := by decide +kernel
theorem d_M_step_25 : decode b_M_step 25 = .ok (.iload_n 1, 1) := by decide +kernel
theorem d_M_step_26 : decode b_M_step 26 = .ok (.iaload, 1) := by decide +kernel
theorem d_M_step_27 : decode b_M_step 27 = .ok (.ireturn, 1) := by decide +kernel
theorem d_M_comeTo_0 : decode b_M_comeTo 0 = .ok (.iconst 1, 1) := by decide +kernel
theorem d_M_comeTo_1 : decode b_M_comeTo 1 = .ok (.aload_n 0, 1) := by decide +kernel
theorem d_M_comeTo_2 : decode b_M_comeTo 2 = .ok (.getfield 48, 3) := by decide +kernel
theorem d_M_comeTo_5 : decode b_M_comeTo 5 = .ok (.ishl, 1) := by decide +kernel
theorem d_M_comeTo_6 : decode b_M_comeTo 6 = .ok (.istore_n 1, 1) := by decide +kernel
theorem d_M_comeTo_7 : decode b_M_comeTo 7 = .ok (.iconst 0, 1) := by decide +kernel
theorem d_M_comeTo_8 : decode b_M_comeTo 8 = .ok (.istore_n 2, 1) := by decide +kernel
theorem d_M_comeTo_9 : decode b_M_comeTo 9 = .ok (.iload_n 2, 1) := by decide +kernel
theorem d_M_comeTo_10 : decode b_M_comeTo 10 = .ok (.iload_n 1, 1) := by decide +kernel
theorem d_M_comeTo_11 : decode b_M_comeTo 11 = .ok (.if_icmp .ge 28, 3) := by decide +kernel
theorem d_M_comeTo_14 : decode b_M_comeTo 14 = .ok (.aload_n 0, 1) := by decide +kernel
theorem d_M_comeTo_15 : decode b_M_comeTo 15 = .ok (.getfield 31, 3) := by decide +kernel
theorem d_M_comeTo_18 : decode b_M_comeTo 18 = .ok (.iload_n 2, 1) := by decide +kernel
theorem d_M_comeTo_19 : decode b_M_comeTo 19 = .ok (.iload_n 2, 1) := by decide +kernel
theorem d_M_comeTo_20 : decode b_M_comeTo 20 = .ok (.aload_n 0, 1) := by decide +kernel
theorem d_M_comeTo_21 : decode b_M_comeTo 21 = .ok (.getfield 60, 3) := by decide +kernel
theorem d_M_comeTo_24 : decode b_M_comeTo 24 = .ok (.if_icmp .ne 7, 3) := by decide +kernel
theorem d_M_comeTo_27 : decode b_M_comeTo 27 = .ok (.iconst 1, 1) := by decide +kernel
theorem d_M_comeTo_28 : decode b_M_comeTo 28 = .ok (.goto 4, 3) := by decide +kernel
theorem d_M_comeTo_31 : decode b_M_comeTo 31 = .ok (.iconst 0, 1) := by decide +kernel
theorem d_M_comeTo_32 : decode b_M_comeTo 32 = .ok (.bastore, 1) := by decide +kernel
theorem d_M_comeTo_33 : decode b_M_comeTo 33 = .ok (.iinc 2 1, 3) := by decide +kernel
theorem d_M_comeTo_36 : decode b_M_comeTo 36 = .ok (.goto (-27), 3) := by decide +kernel
theorem d_M_comeTo_39 : decode b_M_comeTo 39 = .ok (.iconst 1, 1) := by decide +kernel
theorem d_M_comeTo_40 : decode b_M_comeTo 40 = .ok (.istore_n 2, 1) := by decide +kernel
theorem d_M_comeTo_41 : decode b_M_comeTo 41 = .ok (.iload_n 2, 1) := by decide +kernel
theorem d_M_comeTo_42 : decode b_M_comeTo 42 = .ok (.ifCond .eq 88, 3) := by decide +kernel
theorem d_M_comeTo_45 : decode b_M_comeTo 45 = .ok (.iconst 0, 1) := by decide +kernel
theorem d_M_comeTo_46 : decode b_M_comeTo 46 = .ok (.istore_n 2, 1) := by decide +kernel
theorem d_M_comeTo_47 : decode b_M_comeTo 47 = .ok (.iconst 0, 1) := by decide +kernel
theorem d_M_comeTo_48 : decode b_M_comeTo 48 = .ok (.istore_n 3, 1) := by decide +kernel
theorem d_M_comeTo_49 : decode b_M_comeTo 49 = .ok (.iload_n 3, 1) := by decide +kernel
theorem d_M_comeTo_50 : decode b_M_comeTo 50 = .ok (.iload_n 1, 1) := by decide +kernel
theorem d_M_comeTo_51 : decode b_M_comeTo 51 = .ok (.if_icmp .ge 76, 3) := by decide +kernel
theorem d_M_comeTo_54 : decode b_M_comeTo 54 = .ok (.iconst 0, 1) := by decide +kernel
theorem d_M_comeTo_55 : decode b_M_comeTo 55 = .ok (.istore 4, 2) := by decide +kernel
theorem d_M_comeTo_57 : decode b_M_comeTo 57 = .ok (.iload 4, 2) := by decide +kernel
theorem d_M_comeTo_59 : decode b_M_comeTo 59 = .ok (.aload_n 0, 1) := by decide +kernel
theorem d_M_comeTo_60 : decode b_M_comeTo 60 = .ok (.getfield 51, 3) := by decide +kernel
theorem d_M_comeTo_63 : decode b_M_comeTo 63 = .ok (.if_icmp .ge 58, 3) := by decide +kernel
theorem d_M_comeTo_66 : decode b_M_comeTo 66 = .ok (.aload_n 0, 1) := by decide +kernel
theorem d_M_comeTo_67 : decode b_M_comeTo 67 = .ok (.getfield 31, 3) := by decide +kernel
theorem d_M_comeTo_70 : decode b_M_comeTo 70 = .ok (.iload_n 3, 1) := by decide +kernel
theorem d_M_comeTo_71 : decode b_M_comeTo 71 = .ok (.baload, 1) := by decide +kernel
theorem d_M_comeTo_72 : decode b_M_comeTo 72 = .ok (.ifCond .eq 43, 3) := by decide +kernel
theorem d_M_comeTo_75 : decode b_M_comeTo 75 = .ok (.aload_n 0, 1) := by decide +kernel
theorem d_M_comeTo_76 : decode b_M_comeTo 76 = .ok (.iload 4, 2) := by decide +kernel
theorem d_M_comeTo_78 : decode b_M_comeTo 78 = .ok (.iload_n 3, 1) := by decide +kernel
theorem d_M_comeTo_79 : decode b_M_comeTo 79 = .ok (.invokevirtual 76, 3) := by decide +kernel
theorem d_M_comeTo_82 : decode b_M_comeTo 82 = .ok (.ifCond .eq 33, 3) := by decide +kernel
theorem d_M_comeTo_85 : decode b_M_comeTo 85 = .ok (.aload_n 0, 1) := by decide +kernel
theorem d_M_comeTo_86 : decode b_M_comeTo 86 = .ok (.getfield 31, 3) := by decide +kernel
theorem d_M_comeTo_89 : decode b_M_comeTo 89 = .ok (.aload_n 0, 1) := by decide +kernel
theorem d_M_comeTo_90 : decode b_M_comeTo 90 = .ok (.iload 4, 2) := by decide +kernel
theorem d_M_comeTo_92 : decode b_M_comeTo 92 = .ok (.iload_n 3, 1) := by decide +kernel
theorem d_M_comeTo_93 : decode b_M_comeTo 93 = .ok (.invokevirtual 80, 3) := by decide +kernel
theorem d_M_comeTo_96 : decode b_M_comeTo 96 = .ok (.baload, 1) := by decide +kernel
theorem d_M_comeTo_97 : decode b_M_comeTo 97 = .ok (.ifCond .ne 18, 3) := by decide +kernel
theorem d_M_comeTo_100 : decode b_M_comeTo 100 = .ok (.aload_n 0, 1) := by decide +kernel
theorem d_M_comeTo_101 : decode b_M_comeTo 101 = .ok (.getfield 31, 3) := by decide +kernel
theorem d_M_comeTo_104 : decode b_M_comeTo 104 = .ok (.aload_n 0, 1) := by decide +kernel
theorem d_M_comeTo_105 : decode b_M_comeTo 105 = .ok (.iload 4, 2) := by decide +kernel
theorem d_M_comeTo_107 : decode b_M_comeTo 107 = .ok (.iload_n 3, 1) := by decide +kernel
theorem d_M_comeTo_108 : decode b_M_comeTo 108 = .ok (.invokevirtual 80, 3) := by decide +kernel
theorem d_M_comeTo_111 : decode b_M_comeTo 111 = .ok (.iconst 1, 1) := by decide +kernel
theorem d_M_comeTo_112 : decode b_M_comeTo 112 = .ok (.bastore, 1) := by decide +kernel
theorem d_M_comeTo_113 : decode b_M_comeTo 113 = .ok (.iconst 1, 1) := by decide +kernel
theorem d_M_comeTo_114 : decode b_M_comeTo 114 = .ok (.istore_n 2, 1) := by decide +kernel
theorem d_M_comeTo_115 : decode b_M_comeTo 115 = .ok (.iinc 4 1, 3) := by decide +kernel
theorem d_M_comeTo_118 : decode b_M_comeTo 118 = .ok (.goto (-61), 3) := by decide +kernel
theorem d_M_comeTo_121 : decode b_M_comeTo 121 = .ok (.iinc 3 1, 3) := by decide +kernel
theorem d_M_comeTo_124 : decode b_M_comeTo 124 = .ok (.goto (-75), 3) := by decide +kernel
theorem d_M_comeTo_127 : decode b_M_comeTo 127 = .ok (.goto (-86), 3) := by decide +kernel
theorem d_M_comeTo_130 : decode b_M_comeTo 130 = .ok (.return_, 1) := by decide +kernel
theorem d_M_states_0 : decode b_M_states 0 = .ok (.aload_n 0, 1) := by decide +kernel
theorem d_M_states_1 : decode b_M_states 1 = .ok (.iconst 0, 1) := by decide +kernel
theorem d_M_states_2 : decode b_M_states 2 = .ok (.putfield 44, 3) := by decide +kernel
theorem d_M_states_5 : decode b_M_states 5 = .ok (.aload_n 0, 1) := by decide +kernel
theorem d_M_states_6 : decode b_M_states 6 = .ok (.invokevirtual 98, 3) := by decide +kernel
theorem d_M_states_9 : decode b_M_states 9 = .ok (.iconst 0, 1) := by decide +kernel
theorem d_M_states_10 : decode b_M_states 10 = .ok (.istore_n 1, 1) := by decide +kernel
theorem d_M_states_11 : decode b_M_states 11 = .ok (.iconst 0, 1) := by decide +kernel
theorem d_M_states_12 : decode b_M_states 12 = .ok (.istore_n 2, 1) := by decide +kernel
theorem d_M_states_13 : decode b_M_states 13 = .ok (.iload_n 2, 1) := by decide +kernel
theorem d_M_states_14 : decode b_M_states 14 = .ok (.iconst 1, 1) := by decide +kernel
theorem d_M_states_15 : decode b_M_states 15 = .ok (.aload_n 0, 1) := by decide +kernel
theorem d_M_states_16 : decode b_M_states 16 = .ok (.getfield 48, 3) := by decide +kernel
theorem d_M_states_19 : decode b_M_states 19 = .ok (.ishl, 1) := by decide +kernel
theorem d_M_states_20 : decode b_M_states 20 = .ok (.if_icmp .ge 26, 3) := by decide +kernel
theorem d_M_states_23 : decode b_M_states 23 = .ok (.aload_n 0, 1) := by decide +kernel
theorem d_M_states_24 : decode b_M_states 24 = .ok (.getfield 31, 3) := by decide +kernel
theorem d_M_states_27 : decode b_M_states 27 = .ok (.iload_n 2, 1) := by decide +kernel
theorem d_M_states_28 : decode b_M_states 28 = .ok (.baload, 1) := by decide +kernel
theorem d_M_states_29 : decode b_M_states 29 = .ok (.ifCond .eq 9, 3) := by decide +kernel
theorem d_M_states_32 : decode b_M_states 32 = .ok (.iload_n 1, 1) := by decide +kernel
theorem d_M_states_33 : decode b_M_states 33 = .ok (.iconst 1, 1) := by decide +kernel
theorem d_M_states_34 : decode b_M_states 34 = .ok (.iadd, 1) := by decide +kernel
theorem d_M_states_35 : decode b_M_states 35 = .ok (.goto 4, 3) := by decide +kernel
theorem d_M_states_38 : decode b_M_states 38 = .ok (.iload_n 1, 1) := by decide +kernel
theorem d_M_states_39 : decode b_M_states 39 = .ok (.istore_n 1, 1) := by decide +kernel
theorem d_M_states_40 : decode b_M_states 40 = .ok (.iinc 2 1, 3) := by decide +kernel
theorem d_M_states_43 : decode b_M_states 43 = .ok (.goto (-30), 3) := by decide +kernel
theorem d_M_states_46 : decode b_M_states 46 = .ok (.iload_n 1, 1) := by decide +kernel
theorem d_M_states_47 : decode b_M_states 47 = .ok (.ireturn, 1) := by decide +kernel
theorem d_M_together_0 : decode b_M_together 0 = .ok (.aload_n 0, 1) := by decide +kernel
theorem d_M_together_1 : decode b_M_together 1 = .ok (.aload_n 0, 1) := by decide +kernel
theorem d_M_together_2 : decode b_M_together 2 = .ok (.iload_n 1, 1) := by decide +kernel
theorem d_M_together_3 : decode b_M_together 3 = .ok (.invokevirtual 73, 3) := by decide +kernel
theorem d_M_together_6 : decode b_M_together 6 = .ok (.ifCond .ne 11, 3) := by decide +kernel
theorem d_M_together_9 : decode b_M_together 9 = .ok (.aload_n 0, 1) := by decide +kernel
theorem d_M_together_10 : decode b_M_together 10 = .ok (.iload_n 2, 1) := by decide +kernel
theorem d_M_together_11 : decode b_M_together 11 = .ok (.invokevirtual 73, 3) := by decide +kernel
theorem d_M_together_14 : decode b_M_together 14 = .ok (.ifCond .eq 7, 3) := by decide +kernel
theorem d_M_together_17 : decode b_M_together 17 = .ok (.iconst 1, 1) := by decide +kernel
theorem d_M_together_18 : decode b_M_together 18 = .ok (.goto 4, 3) := by decide +kernel
theorem d_M_together_21 : decode b_M_together 21 = .ok (.iconst 0, 1) := by decide +kernel
theorem d_M_together_22 : decode b_M_together 22 = .ok (.putfield 44, 3) := by decide +kernel
theorem d_M_together_25 : decode b_M_together 25 = .ok (.aload_n 0, 1) := by decide +kernel
theorem d_M_together_26 : decode b_M_together 26 = .ok (.getfield 44, 3) := by decide +kernel
theorem d_M_together_29 : decode b_M_together 29 = .ok (.ifCond .le 5, 3) := by decide +kernel
theorem d_M_together_32 : decode b_M_together 32 = .ok (.iconst 0, 1) := by decide +kernel
theorem d_M_together_33 : decode b_M_together 33 = .ok (.ireturn, 1) := by decide +kernel
theorem d_M_together_34 : decode b_M_together 34 = .ok (.aload_n 0, 1) := by decide +kernel
theorem d_M_together_35 : decode b_M_together 35 = .ok (.invokevirtual 98, 3) := by decide +kernel
theorem d_M_together_38 : decode b_M_together 38 = .ok (.iconst 1, 1) := by decide +kernel
theorem d_M_together_39 : decode b_M_together 39 = .ok (.iload_n 1, 1) := by decide +kernel
theorem d_M_together_40 : decode b_M_together 40 = .ok (.ishl, 1) := by decide +kernel
theorem d_M_together_41 : decode b_M_together 41 = .ok (.iconst 1, 1) := by decide +kernel
theorem d_M_together_42 : decode b_M_together 42 = .ok (.iload_n 2, 1) := by decide +kernel
theorem d_M_together_43 : decode b_M_together 43 = .ok (.ishl, 1) := by decide +kernel
theorem d_M_together_44 : decode b_M_together 44 = .ok (.ior, 1) := by decide +kernel
theorem d_M_together_45 : decode b_M_together 45 = .ok (.istore_n 3, 1) := by decide +kernel
theorem d_M_together_46 : decode b_M_together 46 = .ok (.iconst 0, 1) := by decide +kernel
theorem d_M_together_47 : decode b_M_together 47 = .ok (.istore 4, 2) := by decide +kernel
theorem d_M_together_49 : decode b_M_together 49 = .ok (.iload 4, 2) := by decide +kernel
theorem d_M_together_51 : decode b_M_together 51 = .ok (.iconst 1, 1) := by decide +kernel
theorem d_M_together_52 : decode b_M_together 52 = .ok (.aload_n 0, 1) := by decide +kernel
theorem d_M_together_53 : decode b_M_together 53 = .ok (.getfield 48, 3) := by decide +kernel
theorem d_M_together_56 : decode b_M_together 56 = .ok (.ishl, 1) := by decide +kernel
theorem d_M_together_57 : decode b_M_together 57 = .ok (.if_icmp .ge 29, 3) := by decide +kernel
theorem d_M_together_60 : decode b_M_together 60 = .ok (.aload_n 0, 1) := by decide +kernel
theorem d_M_together_61 : decode b_M_together 61 = .ok (.getfield 31, 3) := by decide +kernel
theorem d_M_together_64 : decode b_M_together 64 = .ok (.iload 4, 2) := by decide +kernel
theorem d_M_together_66 : decode b_M_together 66 = .ok (.baload, 1) := by decide +kernel
theorem d_M_together_67 : decode b_M_together 67 = .ok (.ifCond .eq 13, 3) := by decide +kernel
theorem d_M_together_70 : decode b_M_together 70 = .ok (.iload 4, 2) := by decide +kernel
theorem d_M_together_72 : decode b_M_together 72 = .ok (.iload_n 3, 1) := by decide +kernel
theorem d_M_together_73 : decode b_M_together 73 = .ok (.iand, 1) := by decide +kernel
theorem d_M_together_74 : decode b_M_together 74 = .ok (.iload_n 3, 1) := by decide +kernel
theorem d_M_together_75 : decode b_M_together 75 = .ok (.if_icmp .ne 5, 3) := by decide +kernel
theorem d_M_together_78 : decode b_M_together 78 = .ok (.iconst 1, 1) := by decide +kernel
theorem d_M_together_79 : decode b_M_together 79 = .ok (.ireturn, 1) := by decide +kernel
theorem d_M_together_80 : decode b_M_together 80 = .ok (.iinc 4 1, 3) := by decide +kernel
theorem d_M_together_83 : decode b_M_together 83 = .ok (.goto (-34), 3) := by decide +kernel
theorem d_M_together_86 : decode b_M_together 86 = .ok (.iconst 0, 1) := by decide +kernel
theorem d_M_together_87 : decode b_M_together 87 = .ok (.ireturn, 1) := by decide +kernel
theorem d_M_over_0 : decode b_M_over 0 = .ok (.iconst 0, 1) := by decide +kernel
theorem d_M_over_1 : decode b_M_over 1 = .ok (.istore_n 3, 1) := by decide +kernel
theorem d_M_over_2 : decode b_M_over 2 = .ok (.iconst 0, 1) := by decide +kernel
theorem d_M_over_3 : decode b_M_over 3 = .ok (.istore 4, 2) := by decide +kernel
theorem d_M_over_5 : decode b_M_over 5 = .ok (.iload 4, 2) := by decide +kernel
end
section
theorem d_M_over_7 : decode b_M_over 7 = .ok (.aload_n 0, 1) := by decide +kernel
theorem d_M_over_8 : decode b_M_over 8 = .ok (.getfield 48, 3) := by decide +kernel
theorem d_M_over_11 : decode b_M_over 11 = .ok (.if_icmp .ge 58, 3) := by decide +kernel
theorem d_M_over_14 : decode b_M_over 14 = .ok (.iload_n 1, 1) := by decide +kernel
theorem d_M_over_15 : decode b_M_over 15 = .ok (.iload 4, 2) := by decide +kernel
theorem d_M_over_17 : decode b_M_over 17 = .ok (.ishr, 1) := by decide +kernel
theorem d_M_over_18 : decode b_M_over 18 = .ok (.iconst 1, 1) := by decide +kernel
theorem d_M_over_19 : decode b_M_over 19 = .ok (.iand, 1) := by decide +kernel
theorem d_M_over_20 : decode b_M_over 20 = .ok (.iconst 1, 1) := by decide +kernel
theorem d_M_over_21 : decode b_M_over 21 = .ok (.if_icmp .ne 42, 3) := by decide +kernel
theorem d_M_over_24 : decode b_M_over 24 = .ok (.iload_n 2, 1) := by decide +kernel
theorem d_M_over_25 : decode b_M_over 25 = .ok (.ifCond .eq 15, 3) := by decide +kernel
theorem d_M_over_28 : decode b_M_over 28 = .ok (.iload_n 3, 1) := by decide +kernel
theorem d_M_over_29 : decode b_M_over 29 = .ok (.aload_n 0, 1) := by decide +kernel
theorem d_M_over_30 : decode b_M_over 30 = .ok (.getfield 38, 3) := by decide +kernel
theorem d_M_over_33 : decode b_M_over 33 = .ok (.iload 4, 2) := by decide +kernel
theorem d_M_over_35 : decode b_M_over 35 = .ok (.iaload, 1) := by decide +kernel
theorem d_M_over_36 : decode b_M_over 36 = .ok (.iadd, 1) := by decide +kernel
theorem d_M_over_37 : decode b_M_over 37 = .ok (.goto 25, 3) := by decide +kernel
theorem d_M_over_40 : decode b_M_over 40 = .ok (.aload_n 0, 1) := by decide +kernel
theorem d_M_over_41 : decode b_M_over 41 = .ok (.getfield 38, 3) := by decide +kernel
theorem d_M_over_44 : decode b_M_over 44 = .ok (.iload 4, 2) := by decide +kernel
theorem d_M_over_46 : decode b_M_over 46 = .ok (.iaload, 1) := by decide +kernel
theorem d_M_over_47 : decode b_M_over 47 = .ok (.iload_n 3, 1) := by decide +kernel
theorem d_M_over_48 : decode b_M_over 48 = .ok (.if_icmp .le 13, 3) := by decide +kernel
theorem d_M_over_51 : decode b_M_over 51 = .ok (.aload_n 0, 1) := by decide +kernel
theorem d_M_over_52 : decode b_M_over 52 = .ok (.getfield 38, 3) := by decide +kernel
theorem d_M_over_55 : decode b_M_over 55 = .ok (.iload 4, 2) := by decide +kernel
theorem d_M_over_57 : decode b_M_over 57 = .ok (.iaload, 1) := by decide +kernel
theorem d_M_over_58 : decode b_M_over 58 = .ok (.goto 4, 3) := by decide +kernel
theorem d_M_over_61 : decode b_M_over 61 = .ok (.iload_n 3, 1) := by decide +kernel
theorem d_M_over_62 : decode b_M_over 62 = .ok (.istore_n 3, 1) := by decide +kernel
theorem d_M_over_63 : decode b_M_over 63 = .ok (.iinc 4 1, 3) := by decide +kernel
theorem d_M_over_66 : decode b_M_over 66 = .ok (.goto (-61), 3) := by decide +kernel
theorem d_M_over_69 : decode b_M_over 69 = .ok (.iload_n 3, 1) := by decide +kernel
theorem d_M_over_70 : decode b_M_over 70 = .ok (.ldc 87, 2) := by decide +kernel
theorem d_M_over_72 : decode b_M_over 72 = .ok (.if_icmp .le 8, 3) := by decide +kernel
theorem d_M_over_75 : decode b_M_over 75 = .ok (.ldc 87, 2) := by decide +kernel
theorem d_M_over_77 : decode b_M_over 77 = .ok (.goto 4, 3) := by decide +kernel
theorem d_M_over_80 : decode b_M_over 80 = .ok (.iload_n 3, 1) := by decide +kernel
theorem d_M_over_81 : decode b_M_over 81 = .ok (.ireturn, 1) := by decide +kernel
theorem d_M_findLevels_0 : decode b_M_findLevels 0 = .ok (.iconst 0, 1) := by decide +kernel
theorem d_M_findLevels_1 : decode b_M_findLevels 1 = .ok (.istore_n 3, 1) := by decide +kernel
theorem d_M_findLevels_2 : decode b_M_findLevels 2 = .ok (.iload_n 3, 1) := by decide +kernel
theorem d_M_findLevels_3 : decode b_M_findLevels 3 = .ok (.aload_n 0, 1) := by decide +kernel
theorem d_M_findLevels_4 : decode b_M_findLevels 4 = .ok (.getfield 48, 3) := by decide +kernel
theorem d_M_findLevels_7 : decode b_M_findLevels 7 = .ok (.if_icmp .ge 33, 3) := by decide +kernel
theorem d_M_findLevels_10 : decode b_M_findLevels 10 = .ok (.aload_n 0, 1) := by decide +kernel
theorem d_M_findLevels_11 : decode b_M_findLevels 11 = .ok (.getfield 38, 3) := by decide +kernel
theorem d_M_findLevels_14 : decode b_M_findLevels 14 = .ok (.iload_n 3, 1) := by decide +kernel
theorem d_M_findLevels_15 : decode b_M_findLevels 15 = .ok (.aload_n 0, 1) := by decide +kernel
theorem d_M_findLevels_16 : decode b_M_findLevels 16 = .ok (.getfield 60, 3) := by decide +kernel
theorem d_M_findLevels_19 : decode b_M_findLevels 19 = .ok (.iload_n 3, 1) := by decide +kernel
theorem d_M_findLevels_20 : decode b_M_findLevels 20 = .ok (.ishr, 1) := by decide +kernel
theorem d_M_findLevels_21 : decode b_M_findLevels 21 = .ok (.iconst 1, 1) := by decide +kernel
theorem d_M_findLevels_22 : decode b_M_findLevels 22 = .ok (.iand, 1) := by decide +kernel
theorem d_M_findLevels_23 : decode b_M_findLevels 23 = .ok (.iconst 1, 1) := by decide +kernel
theorem d_M_findLevels_24 : decode b_M_findLevels 24 = .ok (.if_icmp .ne 7, 3) := by decide +kernel
theorem d_M_findLevels_27 : decode b_M_findLevels 27 = .ok (.iconst 0, 1) := by decide +kernel
theorem d_M_findLevels_28 : decode b_M_findLevels 28 = .ok (.goto 5, 3) := by decide +kernel
theorem d_M_findLevels_31 : decode b_M_findLevels 31 = .ok (.ldc 87, 2) := by decide +kernel
theorem d_M_findLevels_33 : decode b_M_findLevels 33 = .ok (.iastore, 1) := by decide +kernel
theorem d_M_findLevels_34 : decode b_M_findLevels 34 = .ok (.iinc 3 1, 3) := by decide +kernel
theorem d_M_findLevels_37 : decode b_M_findLevels 37 = .ok (.goto (-35), 3) := by decide +kernel
theorem d_M_findLevels_40 : decode b_M_findLevels 40 = .ok (.iconst 1, 1) := by decide +kernel
theorem d_M_findLevels_41 : decode b_M_findLevels 41 = .ok (.istore_n 3, 1) := by decide +kernel
theorem d_M_findLevels_42 : decode b_M_findLevels 42 = .ok (.iload_n 3, 1) := by decide +kernel
theorem d_M_findLevels_43 : decode b_M_findLevels 43 = .ok (.ifCond .eq 122, 3) := by decide +kernel
theorem d_M_findLevels_46 : decode b_M_findLevels 46 = .ok (.iconst 0, 1) := by decide +kernel
theorem d_M_findLevels_47 : decode b_M_findLevels 47 = .ok (.istore_n 3, 1) := by decide +kernel
theorem d_M_findLevels_48 : decode b_M_findLevels 48 = .ok (.iconst 0, 1) := by decide +kernel
theorem d_M_findLevels_49 : decode b_M_findLevels 49 = .ok (.istore 4, 2) := by decide +kernel
theorem d_M_findLevels_51 : decode b_M_findLevels 51 = .ok (.iload 4, 2) := by decide +kernel
theorem d_M_findLevels_53 : decode b_M_findLevels 53 = .ok (.aload_n 0, 1) := by decide +kernel
theorem d_M_findLevels_54 : decode b_M_findLevels 54 = .ok (.getfield 51, 3) := by decide +kernel
theorem d_M_findLevels_57 : decode b_M_findLevels 57 = .ok (.if_icmp .ge 105, 3) := by decide +kernel
theorem d_M_findLevels_60 : decode b_M_findLevels 60 = .ok (.aload_n 0, 1) := by decide +kernel
theorem d_M_findLevels_61 : decode b_M_findLevels 61 = .ok (.getfield 16, 3) := by decide +kernel
theorem d_M_findLevels_64 : decode b_M_findLevels 64 = .ok (.iload 4, 2) := by decide +kernel
theorem d_M_findLevels_66 : decode b_M_findLevels 66 = .ok (.iaload, 1) := by decide +kernel
theorem d_M_findLevels_67 : decode b_M_findLevels 67 = .ok (.iload_n 2, 1) := by decide +kernel
theorem d_M_findLevels_68 : decode b_M_findLevels 68 = .ok (.iand, 1) := by decide +kernel
theorem d_M_findLevels_69 : decode b_M_findLevels 69 = .ok (.ifCond .eq 8, 3) := by decide +kernel
theorem d_M_findLevels_72 : decode b_M_findLevels 72 = .ok (.ldc 87, 2) := by decide +kernel
theorem d_M_findLevels_74 : decode b_M_findLevels 74 = .ok (.goto 23, 3) := by decide +kernel
theorem d_M_findLevels_77 : decode b_M_findLevels 77 = .ok (.aload_n 0, 1) := by decide +kernel
theorem d_M_findLevels_78 : decode b_M_findLevels 78 = .ok (.getfield 35, 3) := by decide +kernel
theorem d_M_findLevels_81 : decode b_M_findLevels 81 = .ok (.iload 4, 2) := by decide +kernel
theorem d_M_findLevels_83 : decode b_M_findLevels 83 = .ok (.iaload, 1) := by decide +kernel
theorem d_M_findLevels_84 : decode b_M_findLevels 84 = .ok (.aload_n 0, 1) := by decide +kernel
theorem d_M_findLevels_85 : decode b_M_findLevels 85 = .ok (.aload_n 0, 1) := by decide +kernel
theorem d_M_findLevels_86 : decode b_M_findLevels 86 = .ok (.getfield 13, 3) := by decide +kernel
theorem d_M_findLevels_89 : decode b_M_findLevels 89 = .ok (.iload 4, 2) := by decide +kernel
theorem d_M_findLevels_91 : decode b_M_findLevels 91 = .ok (.iaload, 1) := by decide +kernel
theorem d_M_findLevels_92 : decode b_M_findLevels 92 = .ok (.iload_n 1, 1) := by decide +kernel
theorem d_M_findLevels_93 : decode b_M_findLevels 93 = .ok (.invokevirtual 101, 3) := by decide +kernel
theorem d_M_findLevels_96 : decode b_M_findLevels 96 = .ok (.iadd, 1) := by decide +kernel
theorem d_M_findLevels_97 : decode b_M_findLevels 97 = .ok (.istore 5, 2) := by decide +kernel
theorem d_M_findLevels_99 : decode b_M_findLevels 99 = .ok (.iconst 0, 1) := by decide +kernel
theorem d_M_findLevels_100 : decode b_M_findLevels 100 = .ok (.istore 6, 2) := by decide +kernel
theorem d_M_findLevels_102 : decode b_M_findLevels 102 = .ok (.iload 6, 2) := by decide +kernel
theorem d_M_findLevels_104 : decode b_M_findLevels 104 = .ok (.aload_n 0, 1) := by decide +kernel
theorem d_M_findLevels_105 : decode b_M_findLevels 105 = .ok (.getfield 48, 3) := by decide +kernel
theorem d_M_findLevels_108 : decode b_M_findLevels 108 = .ok (.if_icmp .ge 48, 3) := by decide +kernel
theorem d_M_findLevels_111 : decode b_M_findLevels 111 = .ok (.aload_n 0, 1) := by decide +kernel
theorem d_M_findLevels_112 : decode b_M_findLevels 112 = .ok (.getfield 16, 3) := by decide +kernel
theorem d_M_findLevels_115 : decode b_M_findLevels 115 = .ok (.iload 4, 2) := by decide +kernel
theorem d_M_findLevels_117 : decode b_M_findLevels 117 = .ok (.iaload, 1) := by decide +kernel
theorem d_M_findLevels_118 : decode b_M_findLevels 118 = .ok (.iload 6, 2) := by decide +kernel
theorem d_M_findLevels_120 : decode b_M_findLevels 120 = .ok (.ishr, 1) := by decide +kernel
theorem d_M_findLevels_121 : decode b_M_findLevels 121 = .ok (.iconst 1, 1) := by decide +kernel
theorem d_M_findLevels_122 : decode b_M_findLevels 122 = .ok (.iand, 1) := by decide +kernel
theorem d_M_findLevels_123 : decode b_M_findLevels 123 = .ok (.iconst 1, 1) := by decide +kernel
theorem d_M_findLevels_124 : decode b_M_findLevels 124 = .ok (.if_icmp .ne 26, 3) := by decide +kernel
theorem d_M_findLevels_127 : decode b_M_findLevels 127 = .ok (.iload 5, 2) := by decide +kernel
theorem d_M_findLevels_129 : decode b_M_findLevels 129 = .ok (.aload_n 0, 1) := by decide +kernel
theorem d_M_findLevels_130 : decode b_M_findLevels 130 = .ok (.getfield 38, 3) := by decide +kernel
theorem d_M_findLevels_133 : decode b_M_findLevels 133 = .ok (.iload 6, 2) := by decide +kernel
theorem d_M_findLevels_135 : decode b_M_findLevels 135 = .ok (.iaload, 1) := by decide +kernel
theorem d_M_findLevels_136 : decode b_M_findLevels 136 = .ok (.if_icmp .ge 14, 3) := by decide +kernel
theorem d_M_findLevels_139 : decode b_M_findLevels 139 = .ok (.aload_n 0, 1) := by decide +kernel
theorem d_M_findLevels_140 : decode b_M_findLevels 140 = .ok (.getfield 38, 3) := by decide +kernel
theorem d_M_findLevels_143 : decode b_M_findLevels 143 = .ok (.iload 6, 2) := by decide +kernel
theorem d_M_findLevels_145 : decode b_M_findLevels 145 = .ok (.iload 5, 2) := by decide +kernel
theorem d_M_findLevels_147 : decode b_M_findLevels 147 = .ok (.iastore, 1) := by decide +kernel
theorem d_M_findLevels_148 : decode b_M_findLevels 148 = .ok (.iconst 1, 1) := by decide +kernel
theorem d_M_findLevels_149 : decode b_M_findLevels 149 = .ok (.istore_n 3, 1) := by decide +kernel
theorem d_M_findLevels_150 : decode b_M_findLevels 150 = .ok (.iinc 6 1, 3) := by decide +kernel
theorem d_M_findLevels_153 : decode b_M_findLevels 153 = .ok (.goto (-51), 3) := by decide +kernel
theorem d_M_findLevels_156 : decode b_M_findLevels 156 = .ok (.iinc 4 1, 3) := by decide +kernel
theorem d_M_findLevels_159 : decode b_M_findLevels 159 = .ok (.goto (-108), 3) := by decide +kernel
theorem d_M_findLevels_162 : decode b_M_findLevels 162 = .ok (.goto (-120), 3) := by decide +kernel
theorem d_M_findLevels_165 : decode b_M_findLevels 165 = .ok (.return_, 1) := by decide +kernel
theorem d_M_ownRates_0 : decode b_M_ownRates 0 = .ok (.iconst 0, 1) := by decide +kernel
theorem d_M_ownRates_1 : decode b_M_ownRates 1 = .ok (.istore_n 1, 1) := by decide +kernel
theorem d_M_ownRates_2 : decode b_M_ownRates 2 = .ok (.iload_n 1, 1) := by decide +kernel
theorem d_M_ownRates_3 : decode b_M_ownRates 3 = .ok (.aload_n 0, 1) := by decide +kernel
theorem d_M_ownRates_4 : decode b_M_ownRates 4 = .ok (.getfield 51, 3) := by decide +kernel
theorem d_M_ownRates_7 : decode b_M_ownRates 7 = .ok (.if_icmp .ge 21, 3) := by decide +kernel
theorem d_M_ownRates_10 : decode b_M_ownRates 10 = .ok (.aload_n 0, 1) := by decide +kernel
theorem d_M_ownRates_11 : decode b_M_ownRates 11 = .ok (.getfield 35, 3) := by decide +kernel
theorem d_M_ownRates_14 : decode b_M_ownRates 14 = .ok (.iload_n 1, 1) := by decide +kernel
theorem d_M_ownRates_15 : decode b_M_ownRates 15 = .ok (.aload_n 0, 1) := by decide +kernel
theorem d_M_ownRates_16 : decode b_M_ownRates 16 = .ok (.getfield 7, 3) := by decide +kernel
theorem d_M_ownRates_19 : decode b_M_ownRates 19 = .ok (.iload_n 1, 1) := by decide +kernel
theorem d_M_ownRates_20 : decode b_M_ownRates 20 = .ok (.iaload, 1) := by decide +kernel
theorem d_M_ownRates_21 : decode b_M_ownRates 21 = .ok (.iastore, 1) := by decide +kernel
theorem d_M_ownRates_22 : decode b_M_ownRates 22 = .ok (.iinc 1 1, 3) := by decide +kernel
theorem d_M_ownRates_25 : decode b_M_ownRates 25 = .ok (.goto (-23), 3) := by decide +kernel
theorem d_M_ownRates_28 : decode b_M_ownRates 28 = .ok (.return_, 1) := by decide +kernel
theorem d_M_told_0 : decode b_M_told 0 = .ok (.iload_n 0, 1) := by decide +kernel
theorem d_M_told_1 : decode b_M_told 1 = .ok (.ldc 87, 2) := by decide +kernel
theorem d_M_told_3 : decode b_M_told 3 = .ok (.if_icmp .lt 7, 3) := by decide +kernel
theorem d_M_told_6 : decode b_M_told 6 = .ok (.iconst (-1), 1) := by decide +kernel
theorem d_M_told_7 : decode b_M_told 7 = .ok (.goto 4, 3) := by decide +kernel
theorem d_M_told_10 : decode b_M_told 10 = .ok (.iload_n 0, 1) := by decide +kernel
theorem d_M_told_11 : decode b_M_told 11 = .ok (.ireturn, 1) := by decide +kernel
theorem d_M_level_0 : decode b_M_level 0 = .ok (.aload_n 0, 1) := by decide +kernel
theorem d_M_level_1 : decode b_M_level 1 = .ok (.aload_n 0, 1) := by decide +kernel
theorem d_M_level_2 : decode b_M_level 2 = .ok (.iload_n 1, 1) := by decide +kernel
theorem d_M_level_3 : decode b_M_level 3 = .ok (.invokevirtual 73, 3) := by decide +kernel
theorem d_M_level_6 : decode b_M_level 6 = .ok (.ifCond .eq 7, 3) := by decide +kernel
theorem d_M_level_9 : decode b_M_level 9 = .ok (.iconst 1, 1) := by decide +kernel
theorem d_M_level_10 : decode b_M_level 10 = .ok (.goto 4, 3) := by decide +kernel
theorem d_M_level_13 : decode b_M_level 13 = .ok (.iconst 0, 1) := by decide +kernel
theorem d_M_level_14 : decode b_M_level 14 = .ok (.putfield 44, 3) := by decide +kernel
theorem d_M_level_17 : decode b_M_level 17 = .ok (.aload_n 0, 1) := by decide +kernel
theorem d_M_level_18 : decode b_M_level 18 = .ok (.getfield 44, 3) := by decide +kernel
theorem d_M_level_21 : decode b_M_level 21 = .ok (.ifCond .le 5, 3) := by decide +kernel
theorem d_M_level_24 : decode b_M_level 24 = .ok (.iconst 0, 1) := by decide +kernel
theorem d_M_level_25 : decode b_M_level 25 = .ok (.ireturn, 1) := by decide +kernel
theorem d_M_level_26 : decode b_M_level 26 = .ok (.aload_n 0, 1) := by decide +kernel
theorem d_M_level_27 : decode b_M_level 27 = .ok (.invokevirtual 105, 3) := by decide +kernel
theorem d_M_level_30 : decode b_M_level 30 = .ok (.aload_n 0, 1) := by decide +kernel
theorem d_M_level_31 : decode b_M_level 31 = .ok (.iload_n 2, 1) := by decide +kernel
theorem d_M_level_32 : decode b_M_level 32 = .ok (.iconst 0, 1) := by decide +kernel
theorem d_M_level_33 : decode b_M_level 33 = .ok (.invokevirtual 108, 3) := by decide +kernel
theorem d_M_level_36 : decode b_M_level 36 = .ok (.aload_n 0, 1) := by decide +kernel
theorem d_M_level_37 : decode b_M_level 37 = .ok (.getfield 38, 3) := by decide +kernel
theorem d_M_level_40 : decode b_M_level 40 = .ok (.iload_n 1, 1) := by decide +kernel
theorem d_M_level_41 : decode b_M_level 41 = .ok (.iaload, 1) := by decide +kernel
theorem d_M_level_42 : decode b_M_level 42 = .ok (.invokestatic 112, 3) := by decide +kernel
theorem d_M_level_45 : decode b_M_level 45 = .ok (.ireturn, 1) := by decide +kernel
theorem d_M_bound_0 : decode b_M_bound 0 = .ok (.aload_n 0, 1) := by decide +kernel
theorem d_M_bound_1 : decode b_M_bound 1 = .ok (.iconst 0, 1) := by decide +kernel
theorem d_M_bound_2 : decode b_M_bound 2 = .ok (.putfield 44, 3) := by decide +kernel
theorem d_M_bound_5 : decode b_M_bound 5 = .ok (.aload_n 0, 1) := by decide +kernel
theorem d_M_bound_6 : decode b_M_bound 6 = .ok (.invokevirtual 105, 3) := by decide +kernel
theorem d_M_bound_9 : decode b_M_bound 9 = .ok (.aload_n 0, 1) := by decide +kernel
theorem d_M_bound_10 : decode b_M_bound 10 = .ok (.iload_n 1, 1) := by decide +kernel
theorem d_M_bound_11 : decode b_M_bound 11 = .ok (.iconst 0, 1) := by decide +kernel
theorem d_M_bound_12 : decode b_M_bound 12 = .ok (.invokevirtual 108, 3) := by decide +kernel
theorem d_M_bound_15 : decode b_M_bound 15 = .ok (.aload_n 0, 1) := by decide +kernel
theorem d_M_bound_16 : decode b_M_bound 16 = .ok (.aload_n 0, 1) := by decide +kernel
theorem d_M_bound_17 : decode b_M_bound 17 = .ok (.getfield 63, 3) := by decide +kernel
theorem d_M_bound_20 : decode b_M_bound 20 = .ok (.iload_n 1, 1) := by decide +kernel
theorem d_M_bound_21 : decode b_M_bound 21 = .ok (.invokevirtual 101, 3) := by decide +kernel
theorem d_M_bound_24 : decode b_M_bound 24 = .ok (.invokestatic 112, 3) := by decide +kernel
theorem d_M_bound_27 : decode b_M_bound 27 = .ok (.ireturn, 1) := by decide +kernel
theorem d_M_base_0 : decode b_M_base 0 = .ok (.aload_n 0, 1) := by decide +kernel
theorem d_M_base_1 : decode b_M_base 1 = .ok (.iload_n 1, 1) := by decide +kernel
theorem d_M_base_2 : decode b_M_base 2 = .ok (.iconst 0, 1) := by decide +kernel
theorem d_M_base_3 : decode b_M_base 3 = .ok (.invokevirtual 101, 3) := by decide +kernel
theorem d_M_base_6 : decode b_M_base 6 = .ok (.ldc 87, 2) := by decide +kernel
theorem d_M_base_8 : decode b_M_base 8 = .ok (.if_icmp .lt 5, 3) := by decide +kernel
theorem d_M_base_11 : decode b_M_base 11 = .ok (.iconst (-1), 1) := by decide +kernel
theorem d_M_base_12 : decode b_M_base 12 = .ok (.ireturn, 1) := by decide +kernel
theorem d_M_base_13 : decode b_M_base 13 = .ok (.bipush 10, 2) := by decide +kernel
theorem d_M_base_15 : decode b_M_base 15 = .ok (.istore_n 2, 1) := by decide +kernel
theorem d_M_base_16 : decode b_M_base 16 = .ok (.aload_n 0, 1) := by decide +kernel
theorem d_M_base_17 : decode b_M_base 17 = .ok (.getfield 48, 3) := by decide +kernel
theorem d_M_base_20 : decode b_M_base 20 = .ok (.iconst 1, 1) := by decide +kernel
theorem d_M_base_21 : decode b_M_base 21 = .ok (.isub, 1) := by decide +kernel
theorem d_M_base_22 : decode b_M_base 22 = .ok (.istore_n 3, 1) := by decide +kernel
theorem d_M_base_23 : decode b_M_base 23 = .ok (.iload_n 3, 1) := by decide +kernel
theorem d_M_base_24 : decode b_M_base 24 = .ok (.ifCond .lt 41, 3) := by decide +kernel
theorem d_M_base_27 : decode b_M_base 27 = .ok (.iload_n 1, 1) := by decide +kernel
theorem d_M_base_28 : decode b_M_base 28 = .ok (.iload_n 3, 1) := by decide +kernel
theorem d_M_base_29 : decode b_M_base 29 = .ok (.ishr, 1) := by decide +kernel
theorem d_M_base_30 : decode b_M_base 30 = .ok (.iconst 1, 1) := by decide +kernel
theorem d_M_base_31 : decode b_M_base 31 = .ok (.iand, 1) := by decide +kernel
theorem d_M_base_32 : decode b_M_base 32 = .ok (.iconst 1, 1) := by decide +kernel
theorem d_M_base_33 : decode b_M_base 33 = .ok (.if_icmp .ne 26, 3) := by decide +kernel
theorem d_M_base_36 : decode b_M_base 36 = .ok (.iload_n 2, 1) := by decide +kernel
theorem d_M_base_37 : decode b_M_base 37 = .ok (.bipush 10, 2) := by decide +kernel
theorem d_M_base_39 : decode b_M_base 39 = .ok (.if_icmp .eq 18, 3) := by decide +kernel
theorem d_M_base_42 : decode b_M_base 42 = .ok (.aload_n 0, 1) := by decide +kernel
theorem d_M_base_43 : decode b_M_base 43 = .ok (.getfield 38, 3) := by decide +kernel
theorem d_M_base_46 : decode b_M_base 46 = .ok (.iload_n 3, 1) := by decide +kernel
theorem d_M_base_47 : decode b_M_base 47 = .ok (.iaload, 1) := by decide +kernel
theorem d_M_base_48 : decode b_M_base 48 = .ok (.aload_n 0, 1) := by decide +kernel
theorem d_M_base_49 : decode b_M_base 49 = .ok (.getfield 38, 3) := by decide +kernel
theorem d_M_base_52 : decode b_M_base 52 = .ok (.iload_n 2, 1) := by decide +kernel
theorem d_M_base_53 : decode b_M_base 53 = .ok (.iaload, 1) := by decide +kernel
theorem d_M_base_54 : decode b_M_base 54 = .ok (.if_icmp .lt 5, 3) := by decide +kernel
theorem d_M_base_57 : decode b_M_base 57 = .ok (.iload_n 3, 1) := by decide +kernel
theorem d_M_base_58 : decode b_M_base 58 = .ok (.istore_n 2, 1) := by decide +kernel
theorem d_M_base_59 : decode b_M_base 59 = .ok (.iinc 3 (-1), 3) := by decide +kernel
theorem d_M_base_62 : decode b_M_base 62 = .ok (.goto (-39), 3) := by decide +kernel
theorem d_M_base_65 : decode b_M_base 65 = .ok (.iload_n 2, 1) := by decide +kernel
theorem d_M_base_66 : decode b_M_base 66 = .ok (.ireturn, 1) := by decide +kernel
theorem d_M_zone_0 : decode b_M_zone 0 = .ok (.iconst 1, 1) := by decide +kernel
theorem d_M_zone_1 : decode b_M_zone 1 = .ok (.aload_n 0, 1) := by decide +kernel
theorem d_M_zone_2 : decode b_M_zone 2 = .ok (.aload_n 0, 1) := by decide +kernel
theorem d_M_zone_3 : decode b_M_zone 3 = .ok (.getfield 63, 3) := by decide +kernel
theorem d_M_zone_6 : decode b_M_zone 6 = .ok (.invokevirtual 115, 3) := by decide +kernel
theorem d_M_zone_9 : decode b_M_zone 9 = .ok (.ishl, 1) := by decide +kernel
theorem d_M_zone_10 : decode b_M_zone 10 = .ok (.istore_n 1, 1) := by decide +kernel
theorem d_M_zone_11 : decode b_M_zone 11 = .ok (.iconst 1, 1) := by decide +kernel
theorem d_M_zone_12 : decode b_M_zone 12 = .ok (.istore_n 2, 1) := by decide +kernel
theorem d_M_zone_13 : decode b_M_zone 13 = .ok (.iload_n 2, 1) := by decide +kernel
theorem d_M_zone_14 : decode b_M_zone 14 = .ok (.ifCond .eq 79, 3) := by decide +kernel
theorem d_M_zone_17 : decode b_M_zone 17 = .ok (.iconst 0, 1) := by decide +kernel
theorem d_M_zone_18 : decode b_M_zone 18 = .ok (.istore_n 2, 1) := by decide +kernel
theorem d_M_zone_19 : decode b_M_zone 19 = .ok (.iconst 0, 1) := by decide +kernel
theorem d_M_zone_20 : decode b_M_zone 20 = .ok (.istore_n 3, 1) := by decide +kernel
theorem d_M_zone_21 : decode b_M_zone 21 = .ok (.iload_n 3, 1) := by decide +kernel
theorem d_M_zone_22 : decode b_M_zone 22 = .ok (.aload_n 0, 1) := by decide +kernel
theorem d_M_zone_23 : decode b_M_zone 23 = .ok (.getfield 51, 3) := by decide +kernel
theorem d_M_zone_26 : decode b_M_zone 26 = .ok (.if_icmp .ge 64, 3) := by decide +kernel
theorem d_M_zone_29 : decode b_M_zone 29 = .ok (.aload_n 0, 1) := by decide +kernel
theorem d_M_zone_30 : decode b_M_zone 30 = .ok (.aload_n 0, 1) := by decide +kernel
theorem d_M_zone_31 : decode b_M_zone 31 = .ok (.getfield 13, 3) := by decide +kernel
theorem d_M_zone_34 : decode b_M_zone 34 = .ok (.iload_n 3, 1) := by decide +kernel
theorem d_M_zone_35 : decode b_M_zone 35 = .ok (.iaload, 1) := by decide +kernel
theorem d_M_zone_36 : decode b_M_zone 36 = .ok (.invokevirtual 115, 3) := by decide +kernel
theorem d_M_zone_39 : decode b_M_zone 39 = .ok (.istore 4, 2) := by decide +kernel
theorem d_M_zone_41 : decode b_M_zone 41 = .ok (.iload 4, 2) := by decide +kernel
theorem d_M_zone_43 : decode b_M_zone 43 = .ok (.ifCond .lt 41, 3) := by decide +kernel
theorem d_M_zone_46 : decode b_M_zone 46 = .ok (.aload_n 0, 1) := by decide +kernel
theorem d_M_zone_47 : decode b_M_zone 47 = .ok (.getfield 35, 3) := by decide +kernel
theorem d_M_zone_50 : decode b_M_zone 50 = .ok (.iload_n 3, 1) := by decide +kernel
theorem d_M_zone_51 : decode b_M_zone 51 = .ok (.iaload, 1) := by decide +kernel
theorem d_M_zone_52 : decode b_M_zone 52 = .ok (.ifCond .ne 32, 3) := by decide +kernel
theorem d_M_zone_55 : decode b_M_zone 55 = .ok (.aload_n 0, 1) := by decide +kernel
theorem d_M_zone_56 : decode b_M_zone 56 = .ok (.getfield 16, 3) := by decide +kernel
theorem d_M_zone_59 : decode b_M_zone 59 = .ok (.iload_n 3, 1) := by decide +kernel
theorem d_M_zone_60 : decode b_M_zone 60 = .ok (.iaload, 1) := by decide +kernel
theorem d_M_zone_61 : decode b_M_zone 61 = .ok (.iload_n 1, 1) := by decide +kernel
theorem d_M_zone_62 : decode b_M_zone 62 = .ok (.iand, 1) := by decide +kernel
theorem d_M_zone_63 : decode b_M_zone 63 = .ok (.ifCond .eq 21, 3) := by decide +kernel
theorem d_M_zone_66 : decode b_M_zone 66 = .ok (.iload_n 1, 1) := by decide +kernel
theorem d_M_zone_67 : decode b_M_zone 67 = .ok (.iload 4, 2) := by decide +kernel
theorem d_M_zone_69 : decode b_M_zone 69 = .ok (.ishr, 1) := by decide +kernel
theorem d_M_zone_70 : decode b_M_zone 70 = .ok (.iconst 1, 1) := by decide +kernel
theorem d_M_zone_71 : decode b_M_zone 71 = .ok (.iand, 1) := by decide +kernel
theorem d_M_zone_72 : decode b_M_zone 72 = .ok (.ifCond .ne 12, 3) := by decide +kernel
theorem d_M_zone_75 : decode b_M_zone 75 = .ok (.iload_n 1, 1) := by decide +kernel
theorem d_M_zone_76 : decode b_M_zone 76 = .ok (.iconst 1, 1) := by decide +kernel
theorem d_M_zone_77 : decode b_M_zone 77 = .ok (.iload 4, 2) := by decide +kernel
theorem d_M_zone_79 : decode b_M_zone 79 = .ok (.ishl, 1) := by decide +kernel
theorem d_M_zone_80 : decode b_M_zone 80 = .ok (.ior, 1) := by decide +kernel
theorem d_M_zone_81 : decode b_M_zone 81 = .ok (.istore_n 1, 1) := by decide +kernel
theorem d_M_zone_82 : decode b_M_zone 82 = .ok (.iconst 1, 1) := by decide +kernel
theorem d_M_zone_83 : decode b_M_zone 83 = .ok (.istore_n 2, 1) := by decide +kernel
theorem d_M_zone_84 : decode b_M_zone 84 = .ok (.iinc 3 1, 3) := by decide +kernel
theorem d_M_zone_87 : decode b_M_zone 87 = .ok (.goto (-66), 3) := by decide +kernel
theorem d_M_zone_90 : decode b_M_zone 90 = .ok (.goto (-77), 3) := by decide +kernel
theorem d_M_zone_93 : decode b_M_zone 93 = .ok (.iload_n 1, 1) := by decide +kernel
theorem d_M_zone_94 : decode b_M_zone 94 = .ok (.ireturn, 1) := by decide +kernel
theorem d_M_rest_0 : decode b_M_rest 0 = .ok (.aload_n 0, 1) := by decide +kernel
theorem d_M_rest_1 : decode b_M_rest 1 = .ok (.getfield 60, 3) := by decide +kernel
theorem d_M_rest_4 : decode b_M_rest 4 = .ok (.sipush 1024, 3) := by decide +kernel
theorem d_M_rest_7 : decode b_M_rest 7 = .ok (.ior, 1) := by decide +kernel
theorem d_M_rest_8 : decode b_M_rest 8 = .ok (.iload_n 1, 1) := by decide +kernel
theorem d_M_rest_9 : decode b_M_rest 9 = .ok (.iconst (-1), 1) := by decide +kernel
theorem d_M_rest_10 : decode b_M_rest 10 = .ok (.ixor, 1) := by decide +kernel
theorem d_M_rest_11 : decode b_M_rest 11 = .ok (.iand, 1) := by decide +kernel
theorem d_M_rest_12 : decode b_M_rest 12 = .ok (.istore_n 2, 1) := by decide +kernel
theorem d_M_rest_13 : decode b_M_rest 13 = .ok (.iconst 1, 1) := by decide +kernel
theorem d_M_rest_14 : decode b_M_rest 14 = .ok (.istore_n 3, 1) := by decide +kernel
theorem d_M_rest_15 : decode b_M_rest 15 = .ok (.iload_n 3, 1) := by decide +kernel
theorem d_M_rest_16 : decode b_M_rest 16 = .ok (.ifCond .eq 88, 3) := by decide +kernel
theorem d_M_rest_19 : decode b_M_rest 19 = .ok (.iconst 0, 1) := by decide +kernel
theorem d_M_rest_20 : decode b_M_rest 20 = .ok (.istore_n 3, 1) := by decide +kernel
theorem d_M_rest_21 : decode b_M_rest 21 = .ok (.iconst 0, 1) := by decide +kernel
theorem d_M_rest_22 : decode b_M_rest 22 = .ok (.istore 4, 2) := by decide +kernel
theorem d_M_rest_24 : decode b_M_rest 24 = .ok (.iload 4, 2) := by decide +kernel
theorem d_M_rest_26 : decode b_M_rest 26 = .ok (.aload_n 0, 1) := by decide +kernel
theorem d_M_rest_27 : decode b_M_rest 27 = .ok (.getfield 51, 3) := by decide +kernel
theorem d_M_rest_30 : decode b_M_rest 30 = .ok (.if_icmp .ge 71, 3) := by decide +kernel
theorem d_M_rest_33 : decode b_M_rest 33 = .ok (.aload_n 0, 1) := by decide +kernel
theorem d_M_rest_34 : decode b_M_rest 34 = .ok (.aload_n 0, 1) := by decide +kernel
theorem d_M_rest_35 : decode b_M_rest 35 = .ok (.getfield 13, 3) := by decide +kernel
theorem d_M_rest_38 : decode b_M_rest 38 = .ok (.iload 4, 2) := by decide +kernel
theorem d_M_rest_40 : decode b_M_rest 40 = .ok (.iaload, 1) := by decide +kernel
theorem d_M_rest_41 : decode b_M_rest 41 = .ok (.invokevirtual 115, 3) := by decide +kernel
theorem d_M_rest_44 : decode b_M_rest 44 = .ok (.istore 5, 2) := by decide +kernel
theorem d_M_rest_46 : decode b_M_rest 46 = .ok (.iload 5, 2) := by decide +kernel
theorem d_M_rest_48 : decode b_M_rest 48 = .ok (.ifCond .lt 47, 3) := by decide +kernel
theorem d_M_rest_51 : decode b_M_rest 51 = .ok (.iload_n 2, 1) := by decide +kernel
theorem d_M_rest_52 : decode b_M_rest 52 = .ok (.iload 5, 2) := by decide +kernel
theorem d_M_rest_54 : decode b_M_rest 54 = .ok (.ishr, 1) := by decide +kernel
theorem d_M_rest_55 : decode b_M_rest 55 = .ok (.iconst 1, 1) := by decide +kernel
theorem d_M_rest_56 : decode b_M_rest 56 = .ok (.iand, 1) := by decide +kernel
theorem d_M_rest_57 : decode b_M_rest 57 = .ok (.iconst 1, 1) := by decide +kernel
theorem d_M_rest_58 : decode b_M_rest 58 = .ok (.if_icmp .ne 37, 3) := by decide +kernel
theorem d_M_rest_61 : decode b_M_rest 61 = .ok (.aload_n 0, 1) := by decide +kernel
theorem d_M_rest_62 : decode b_M_rest 62 = .ok (.getfield 16, 3) := by decide +kernel
theorem d_M_rest_65 : decode b_M_rest 65 = .ok (.iload 4, 2) := by decide +kernel
theorem d_M_rest_67 : decode b_M_rest 67 = .ok (.iaload, 1) := by decide +kernel
theorem d_M_rest_68 : decode b_M_rest 68 = .ok (.iload_n 1, 1) := by decide +kernel
theorem d_M_rest_69 : decode b_M_rest 69 = .ok (.iconst (-1), 1) := by decide +kernel
theorem d_M_rest_70 : decode b_M_rest 70 = .ok (.ixor, 1) := by decide +kernel
theorem d_M_rest_71 : decode b_M_rest 71 = .ok (.iand, 1) := by decide +kernel
theorem d_M_rest_72 : decode b_M_rest 72 = .ok (.iload_n 2, 1) := by decide +kernel
theorem d_M_rest_73 : decode b_M_rest 73 = .ok (.iconst (-1), 1) := by decide +kernel
theorem d_M_rest_74 : decode b_M_rest 74 = .ok (.ixor, 1) := by decide +kernel
theorem d_M_rest_75 : decode b_M_rest 75 = .ok (.iand, 1) := by decide +kernel
theorem d_M_rest_76 : decode b_M_rest 76 = .ok (.ifCond .eq 19, 3) := by decide +kernel
theorem d_M_rest_79 : decode b_M_rest 79 = .ok (.iload_n 2, 1) := by decide +kernel
theorem d_M_rest_80 : decode b_M_rest 80 = .ok (.aload_n 0, 1) := by decide +kernel
theorem d_M_rest_81 : decode b_M_rest 81 = .ok (.getfield 16, 3) := by decide +kernel
theorem d_M_rest_84 : decode b_M_rest 84 = .ok (.iload 4, 2) := by decide +kernel
theorem d_M_rest_86 : decode b_M_rest 86 = .ok (.iaload, 1) := by decide +kernel
theorem d_M_rest_87 : decode b_M_rest 87 = .ok (.iload_n 1, 1) := by decide +kernel
theorem d_M_rest_88 : decode b_M_rest 88 = .ok (.iconst (-1), 1) := by decide +kernel
theorem d_M_rest_89 : decode b_M_rest 89 = .ok (.ixor, 1) := by decide +kernel
theorem d_M_rest_90 : decode b_M_rest 90 = .ok (.iand, 1) := by decide +kernel
theorem d_M_rest_91 : decode b_M_rest 91 = .ok (.ior, 1) := by decide +kernel
theorem d_M_rest_92 : decode b_M_rest 92 = .ok (.istore_n 2, 1) := by decide +kernel
theorem d_M_rest_93 : decode b_M_rest 93 = .ok (.iconst 1, 1) := by decide +kernel
theorem d_M_rest_94 : decode b_M_rest 94 = .ok (.istore_n 3, 1) := by decide +kernel
theorem d_M_rest_95 : decode b_M_rest 95 = .ok (.iinc 4 1, 3) := by decide +kernel
theorem d_M_rest_98 : decode b_M_rest 98 = .ok (.goto (-74), 3) := by decide +kernel
theorem d_M_rest_101 : decode b_M_rest 101 = .ok (.goto (-86), 3) := by decide +kernel
theorem d_M_rest_104 : decode b_M_rest 104 = .ok (.iload_n 2, 1) := by decide +kernel
theorem d_M_rest_105 : decode b_M_rest 105 = .ok (.ireturn, 1) := by decide +kernel
theorem d_M_actionsAcross_0 : decode b_M_actionsAcross 0 = .ok (.iconst 0, 1) := by decide +kernel
theorem d_M_actionsAcross_1 : decode b_M_actionsAcross 1 = .ok (.istore_n 3, 1) := by decide +kernel
theorem d_M_actionsAcross_2 : decode b_M_actionsAcross 2 = .ok (.iconst 0, 1) := by decide +kernel
theorem d_M_actionsAcross_3 : decode b_M_actionsAcross 3 = .ok (.istore 4, 2) := by decide +kernel
theorem d_M_actionsAcross_5 : decode b_M_actionsAcross 5 = .ok (.iload 4, 2) := by decide +kernel
theorem d_M_actionsAcross_7 : decode b_M_actionsAcross 7 = .ok (.aload_n 0, 1) := by decide +kernel
theorem d_M_actionsAcross_8 : decode b_M_actionsAcross 8 = .ok (.getfield 51, 3) := by decide +kernel
theorem d_M_actionsAcross_11 : decode b_M_actionsAcross 11 = .ok (.if_icmp .ge 60, 3) := by decide +kernel
theorem d_M_actionsAcross_14 : decode b_M_actionsAcross 14 = .ok (.aload_n 0, 1) := by decide +kernel
theorem d_M_actionsAcross_15 : decode b_M_actionsAcross 15 = .ok (.aload_n 0, 1) := by decide +kernel
theorem d_M_actionsAcross_16 : decode b_M_actionsAcross 16 = .ok (.getfield 13, 3) := by decide +kernel
theorem d_M_actionsAcross_19 : decode b_M_actionsAcross 19 = .ok (.iload 4, 2) := by decide +kernel
theorem d_M_actionsAcross_21 : decode b_M_actionsAcross 21 = .ok (.iaload, 1) := by decide +kernel
theorem d_M_actionsAcross_22 : decode b_M_actionsAcross 22 = .ok (.invokevirtual 115, 3) := by decide +kernel
theorem d_M_actionsAcross_25 : decode b_M_actionsAcross 25 = .ok (.istore 5, 2) := by decide +kernel
theorem d_M_actionsAcross_27 : decode b_M_actionsAcross 27 = .ok (.iload 5, 2) := by decide +kernel
theorem d_M_actionsAcross_29 : decode b_M_actionsAcross 29 = .ok (.ifCond .lt 34, 3) := by decide +kernel
theorem d_M_actionsAcross_32 : decode b_M_actionsAcross 32 = .ok (.iload_n 1, 1) := by decide +kernel
theorem d_M_actionsAcross_33 : decode b_M_actionsAcross 33 = .ok (.iload 5, 2) := by decide +kernel
theorem d_M_actionsAcross_35 : decode b_M_actionsAcross 35 = .ok (.ishr, 1) := by decide +kernel
theorem d_M_actionsAcross_36 : decode b_M_actionsAcross 36 = .ok (.iconst 1, 1) := by decide +kernel
theorem d_M_actionsAcross_37 : decode b_M_actionsAcross 37 = .ok (.iand, 1) := by decide +kernel
theorem d_M_actionsAcross_38 : decode b_M_actionsAcross 38 = .ok (.iconst 1, 1) := by decide +kernel
theorem d_M_actionsAcross_39 : decode b_M_actionsAcross 39 = .ok (.if_icmp .ne 24, 3) := by decide +kernel
theorem d_M_actionsAcross_42 : decode b_M_actionsAcross 42 = .ok (.aload_n 0, 1) := by decide +kernel
theorem d_M_actionsAcross_43 : decode b_M_actionsAcross 43 = .ok (.getfield 16, 3) := by decide +kernel
theorem d_M_actionsAcross_46 : decode b_M_actionsAcross 46 = .ok (.iload 4, 2) := by decide +kernel
theorem d_M_actionsAcross_48 : decode b_M_actionsAcross 48 = .ok (.iaload, 1) := by decide +kernel
theorem d_M_actionsAcross_49 : decode b_M_actionsAcross 49 = .ok (.iload_n 2, 1) := by decide +kernel
theorem d_M_actionsAcross_50 : decode b_M_actionsAcross 50 = .ok (.iand, 1) := by decide +kernel
theorem d_M_actionsAcross_51 : decode b_M_actionsAcross 51 = .ok (.ifCond .eq 12, 3) := by decide +kernel
theorem d_M_actionsAcross_54 : decode b_M_actionsAcross 54 = .ok (.iload_n 3, 1) := by decide +kernel
theorem d_M_actionsAcross_55 : decode b_M_actionsAcross 55 = .ok (.iconst 1, 1) := by decide +kernel
theorem d_M_actionsAcross_56 : decode b_M_actionsAcross 56 = .ok (.iload 4, 2) := by decide +kernel
theorem d_M_actionsAcross_58 : decode b_M_actionsAcross 58 = .ok (.ishl, 1) := by decide +kernel
theorem d_M_actionsAcross_59 : decode b_M_actionsAcross 59 = .ok (.ior, 1) := by decide +kernel
theorem d_M_actionsAcross_60 : decode b_M_actionsAcross 60 = .ok (.goto 4, 3) := by decide +kernel
theorem d_M_actionsAcross_63 : decode b_M_actionsAcross 63 = .ok (.iload_n 3, 1) := by decide +kernel
theorem d_M_actionsAcross_64 : decode b_M_actionsAcross 64 = .ok (.istore_n 3, 1) := by decide +kernel
theorem d_M_actionsAcross_65 : decode b_M_actionsAcross 65 = .ok (.iinc 4 1, 3) := by decide +kernel
theorem d_M_actionsAcross_68 : decode b_M_actionsAcross 68 = .ok (.goto (-63), 3) := by decide +kernel
theorem d_M_actionsAcross_71 : decode b_M_actionsAcross 71 = .ok (.iload_n 3, 1) := by decide +kernel
theorem d_M_actionsAcross_72 : decode b_M_actionsAcross 72 = .ok (.ireturn, 1) := by decide +kernel
theorem d_M_least_0 : decode b_M_least 0 = .ok (.ldc 87, 2) := by decide +kernel
theorem d_M_least_2 : decode b_M_least 2 = .ok (.istore_n 2, 1) := by decide +kernel
theorem d_M_least_3 : decode b_M_least 3 = .ok (.iconst 0, 1) := by decide +kernel
theorem d_M_least_4 : decode b_M_least 4 = .ok (.istore_n 3, 1) := by decide +kernel
theorem d_M_least_5 : decode b_M_least 5 = .ok (.iload_n 3, 1) := by decide +kernel
theorem d_M_least_6 : decode b_M_least 6 = .ok (.aload_n 0, 1) := by decide +kernel
theorem d_M_least_7 : decode b_M_least 7 = .ok (.getfield 51, 3) := by decide +kernel
theorem d_M_least_10 : decode b_M_least 10 = .ok (.if_icmp .ge 39, 3) := by decide +kernel
theorem d_M_least_13 : decode b_M_least 13 = .ok (.iload_n 1, 1) := by decide +kernel
theorem d_M_least_14 : decode b_M_least 14 = .ok (.iload_n 3, 1) := by decide +kernel
theorem d_M_least_15 : decode b_M_least 15 = .ok (.ishr, 1) := by decide +kernel
theorem d_M_least_16 : decode b_M_least 16 = .ok (.iconst 1, 1) := by decide +kernel
theorem d_M_least_17 : decode b_M_least 17 = .ok (.iand, 1) := by decide +kernel
theorem d_M_least_18 : decode b_M_least 18 = .ok (.iconst 1, 1) := by decide +kernel
theorem d_M_least_19 : decode b_M_least 19 = .ok (.if_icmp .ne 22, 3) := by decide +kernel
theorem d_M_least_22 : decode b_M_least 22 = .ok (.aload_n 0, 1) := by decide +kernel
theorem d_M_least_23 : decode b_M_least 23 = .ok (.getfield 35, 3) := by decide +kernel
theorem d_M_least_26 : decode b_M_least 26 = .ok (.iload_n 3, 1) := by decide +kernel
theorem d_M_least_27 : decode b_M_least 27 = .ok (.iaload, 1) := by decide +kernel
theorem d_M_least_28 : decode b_M_least 28 = .ok (.iload_n 2, 1) := by decide +kernel
theorem d_M_least_29 : decode b_M_least 29 = .ok (.if_icmp .ge 12, 3) := by decide +kernel
theorem d_M_least_32 : decode b_M_least 32 = .ok (.aload_n 0, 1) := by decide +kernel
theorem d_M_least_33 : decode b_M_least 33 = .ok (.getfield 35, 3) := by decide +kernel
theorem d_M_least_36 : decode b_M_least 36 = .ok (.iload_n 3, 1) := by decide +kernel
theorem d_M_least_37 : decode b_M_least 37 = .ok (.iaload, 1) := by decide +kernel
theorem d_M_least_38 : decode b_M_least 38 = .ok (.goto 4, 3) := by decide +kernel
theorem d_M_least_41 : decode b_M_least 41 = .ok (.iload_n 2, 1) := by decide +kernel
theorem d_M_least_42 : decode b_M_least 42 = .ok (.istore_n 2, 1) := by decide +kernel
theorem d_M_least_43 : decode b_M_least 43 = .ok (.iinc 3 1, 3) := by decide +kernel
theorem d_M_least_46 : decode b_M_least 46 = .ok (.goto (-41), 3) := by decide +kernel
theorem d_M_least_49 : decode b_M_least 49 = .ok (.iload_n 2, 1) := by decide +kernel
theorem d_M_least_50 : decode b_M_least 50 = .ok (.ireturn, 1) := by decide +kernel
theorem d_M_cutAll_0 : decode b_M_cutAll 0 = .ok (.aload_n 0, 1) := by decide +kernel
theorem d_M_cutAll_1 : decode b_M_cutAll 1 = .ok (.invokevirtual 105, 3) := by decide +kernel
theorem d_M_cutAll_4 : decode b_M_cutAll 4 = .ok (.aload_n 0, 1) := by decide +kernel
theorem d_M_cutAll_5 : decode b_M_cutAll 5 = .ok (.iconst 0, 1) := by decide +kernel
theorem d_M_cutAll_6 : decode b_M_cutAll 6 = .ok (.putfield 118, 3) := by decide +kernel
theorem d_M_cutAll_9 : decode b_M_cutAll 9 = .ok (.aload_n 0, 1) := by decide +kernel
theorem d_M_cutAll_10 : decode b_M_cutAll 10 = .ok (.iconst 0, 1) := by decide +kernel
theorem d_M_cutAll_11 : decode b_M_cutAll 11 = .ok (.putfield 121, 3) := by decide +kernel
theorem d_M_cutAll_14 : decode b_M_cutAll 14 = .ok (.aload_n 0, 1) := by decide +kernel
theorem d_M_cutAll_15 : decode b_M_cutAll 15 = .ok (.iconst 0, 1) := by decide +kernel
theorem d_M_cutAll_16 : decode b_M_cutAll 16 = .ok (.iconst 0, 1) := by decide +kernel
theorem d_M_cutAll_17 : decode b_M_cutAll 17 = .ok (.invokevirtual 108, 3) := by decide +kernel
theorem d_M_cutAll_20 : decode b_M_cutAll 20 = .ok (.aload_n 0, 1) := by decide +kernel
theorem d_M_cutAll_21 : decode b_M_cutAll 21 = .ok (.aload_n 0, 1) := by decide +kernel
theorem d_M_cutAll_22 : decode b_M_cutAll 22 = .ok (.getfield 63, 3) := by decide +kernel
theorem d_M_cutAll_25 : decode b_M_cutAll 25 = .ok (.iconst 0, 1) := by decide +kernel
theorem d_M_cutAll_26 : decode b_M_cutAll 26 = .ok (.invokevirtual 101, 3) := by decide +kernel
theorem d_M_cutAll_29 : decode b_M_cutAll 29 = .ok (.istore_n 1, 1) := by decide +kernel
theorem d_M_cutAll_30 : decode b_M_cutAll 30 = .ok (.iload_n 1, 1) := by decide +kernel
theorem d_M_cutAll_31 : decode b_M_cutAll 31 = .ok (.ifCond .le 137, 3) := by decide +kernel
theorem d_M_cutAll_34 : decode b_M_cutAll 34 = .ok (.iload_n 1, 1) := by decide +kernel
theorem d_M_cutAll_35 : decode b_M_cutAll 35 = .ok (.ldc 87, 2) := by decide +kernel
theorem d_M_cutAll_37 : decode b_M_cutAll 37 = .ok (.if_icmp .ge 131, 3) := by decide +kernel
theorem d_M_cutAll_40 : decode b_M_cutAll 40 = .ok (.aload_n 0, 1) := by decide +kernel
theorem d_M_cutAll_41 : decode b_M_cutAll 41 = .ok (.invokevirtual 124, 3) := by decide +kernel
theorem d_M_cutAll_44 : decode b_M_cutAll 44 = .ok (.istore_n 2, 1) := by decide +kernel
theorem d_M_cutAll_45 : decode b_M_cutAll 45 = .ok (.aload_n 0, 1) := by decide +kernel
theorem d_M_cutAll_46 : decode b_M_cutAll 46 = .ok (.aload_n 0, 1) := by decide +kernel
theorem d_M_cutAll_47 : decode b_M_cutAll 47 = .ok (.iload_n 2, 1) := by decide +kernel
theorem d_M_cutAll_48 : decode b_M_cutAll 48 = .ok (.invokevirtual 128, 3) := by decide +kernel
theorem d_M_cutAll_51 : decode b_M_cutAll 51 = .ok (.iload_n 2, 1) := by decide +kernel
theorem d_M_cutAll_52 : decode b_M_cutAll 52 = .ok (.invokevirtual 131, 3) := by decide +kernel
theorem d_M_cutAll_55 : decode b_M_cutAll 55 = .ok (.istore_n 3, 1) := by decide +kernel
theorem d_M_cutAll_56 : decode b_M_cutAll 56 = .ok (.aload_n 0, 1) := by decide +kernel
theorem d_M_cutAll_57 : decode b_M_cutAll 57 = .ok (.iload_n 3, 1) := by decide +kernel
theorem d_M_cutAll_58 : decode b_M_cutAll 58 = .ok (.invokevirtual 134, 3) := by decide +kernel
theorem d_M_cutAll_61 : decode b_M_cutAll 61 = .ok (.istore 4, 2) := by decide +kernel
theorem d_M_cutAll_63 : decode b_M_cutAll 63 = .ok (.iconst 0, 1) := by decide +kernel
theorem d_M_cutAll_64 : decode b_M_cutAll 64 = .ok (.istore 5, 2) := by decide +kernel
theorem d_M_cutAll_66 : decode b_M_cutAll 66 = .ok (.iload 5, 2) := by decide +kernel
theorem d_M_cutAll_68 : decode b_M_cutAll 68 = .ok (.aload_n 0, 1) := by decide +kernel
theorem d_M_cutAll_69 : decode b_M_cutAll 69 = .ok (.getfield 51, 3) := by decide +kernel
theorem d_M_cutAll_72 : decode b_M_cutAll 72 = .ok (.if_icmp .ge 46, 3) := by decide +kernel
theorem d_M_cutAll_75 : decode b_M_cutAll 75 = .ok (.aload_n 0, 1) := by decide +kernel
theorem d_M_cutAll_76 : decode b_M_cutAll 76 = .ok (.getfield 35, 3) := by decide +kernel
theorem d_M_cutAll_79 : decode b_M_cutAll 79 = .ok (.iload 5, 2) := by decide +kernel
theorem d_M_cutAll_81 : decode b_M_cutAll 81 = .ok (.iload_n 3, 1) := by decide +kernel
theorem d_M_cutAll_82 : decode b_M_cutAll 82 = .ok (.iload 5, 2) := by decide +kernel
theorem d_M_cutAll_84 : decode b_M_cutAll 84 = .ok (.ishr, 1) := by decide +kernel
theorem d_M_cutAll_85 : decode b_M_cutAll 85 = .ok (.iconst 1, 1) := by decide +kernel
theorem d_M_cutAll_86 : decode b_M_cutAll 86 = .ok (.iand, 1) := by decide +kernel
theorem d_M_cutAll_87 : decode b_M_cutAll 87 = .ok (.iconst 1, 1) := by decide +kernel
theorem d_M_cutAll_88 : decode b_M_cutAll 88 = .ok (.if_icmp .ne 16, 3) := by decide +kernel
theorem d_M_cutAll_91 : decode b_M_cutAll 91 = .ok (.aload_n 0, 1) := by decide +kernel
theorem d_M_cutAll_92 : decode b_M_cutAll 92 = .ok (.getfield 35, 3) := by decide +kernel
theorem d_M_cutAll_95 : decode b_M_cutAll 95 = .ok (.iload 5, 2) := by decide +kernel
theorem d_M_cutAll_97 : decode b_M_cutAll 97 = .ok (.iaload, 1) := by decide +kernel
theorem d_M_cutAll_98 : decode b_M_cutAll 98 = .ok (.iload 4, 2) := by decide +kernel
theorem d_M_cutAll_100 : decode b_M_cutAll 100 = .ok (.isub, 1) := by decide +kernel
theorem d_M_cutAll_101 : decode b_M_cutAll 101 = .ok (.goto 10, 3) := by decide +kernel
theorem d_M_cutAll_104 : decode b_M_cutAll 104 = .ok (.aload_n 0, 1) := by decide +kernel
theorem d_M_cutAll_105 : decode b_M_cutAll 105 = .ok (.getfield 35, 3) := by decide +kernel
theorem d_M_cutAll_108 : decode b_M_cutAll 108 = .ok (.iload 5, 2) := by decide +kernel
theorem d_M_cutAll_110 : decode b_M_cutAll 110 = .ok (.iaload, 1) := by decide +kernel
theorem d_M_cutAll_111 : decode b_M_cutAll 111 = .ok (.iastore, 1) := by decide +kernel
theorem d_M_cutAll_112 : decode b_M_cutAll 112 = .ok (.iinc 5 1, 3) := by decide +kernel
theorem d_M_cutAll_115 : decode b_M_cutAll 115 = .ok (.goto (-49), 3) := by decide +kernel
theorem d_M_cutAll_118 : decode b_M_cutAll 118 = .ok (.aload_n 0, 1) := by decide +kernel
theorem d_M_cutAll_119 : decode b_M_cutAll 119 = .ok (.getfield 41, 3) := by decide +kernel
theorem d_M_cutAll_122 : decode b_M_cutAll 122 = .ok (.aload_n 0, 1) := by decide +kernel
theorem d_M_cutAll_123 : decode b_M_cutAll 123 = .ok (.getfield 118, 3) := by decide +kernel
theorem d_M_cutAll_126 : decode b_M_cutAll 126 = .ok (.iload_n 3, 1) := by decide +kernel
theorem d_M_cutAll_127 : decode b_M_cutAll 127 = .ok (.iastore, 1) := by decide +kernel
theorem d_M_cutAll_128 : decode b_M_cutAll 128 = .ok (.aload_n 0, 1) := by decide +kernel
theorem d_M_cutAll_129 : decode b_M_cutAll 129 = .ok (.dup, 1) := by decide +kernel
theorem d_M_cutAll_130 : decode b_M_cutAll 130 = .ok (.getfield 118, 3) := by decide +kernel
theorem d_M_cutAll_133 : decode b_M_cutAll 133 = .ok (.iconst 1, 1) := by decide +kernel
theorem d_M_cutAll_134 : decode b_M_cutAll 134 = .ok (.iadd, 1) := by decide +kernel
theorem d_M_cutAll_135 : decode b_M_cutAll 135 = .ok (.putfield 118, 3) := by decide +kernel
theorem d_M_cutAll_138 : decode b_M_cutAll 138 = .ok (.aload_n 0, 1) := by decide +kernel
theorem d_M_cutAll_139 : decode b_M_cutAll 139 = .ok (.aload_n 0, 1) := by decide +kernel
theorem d_M_cutAll_140 : decode b_M_cutAll 140 = .ok (.getfield 121, 3) := by decide +kernel
theorem d_M_cutAll_143 : decode b_M_cutAll 143 = .ok (.iload 4, 2) := by decide +kernel
theorem d_M_cutAll_145 : decode b_M_cutAll 145 = .ok (.iadd, 1) := by decide +kernel
theorem d_M_cutAll_146 : decode b_M_cutAll 146 = .ok (.putfield 121, 3) := by decide +kernel
theorem d_M_cutAll_149 : decode b_M_cutAll 149 = .ok (.aload_n 0, 1) := by decide +kernel
theorem d_M_cutAll_150 : decode b_M_cutAll 150 = .ok (.iconst 0, 1) := by decide +kernel
theorem d_M_cutAll_151 : decode b_M_cutAll 151 = .ok (.iconst 0, 1) := by decide +kernel
theorem d_M_cutAll_152 : decode b_M_cutAll 152 = .ok (.invokevirtual 108, 3) := by decide +kernel
theorem d_M_cutAll_155 : decode b_M_cutAll 155 = .ok (.aload_n 0, 1) := by decide +kernel
theorem d_M_cutAll_156 : decode b_M_cutAll 156 = .ok (.aload_n 0, 1) := by decide +kernel
theorem d_M_cutAll_157 : decode b_M_cutAll 157 = .ok (.getfield 63, 3) := by decide +kernel
theorem d_M_cutAll_160 : decode b_M_cutAll 160 = .ok (.iconst 0, 1) := by decide +kernel
theorem d_M_cutAll_161 : decode b_M_cutAll 161 = .ok (.invokevirtual 101, 3) := by decide +kernel
theorem d_M_cutAll_164 : decode b_M_cutAll 164 = .ok (.istore_n 1, 1) := by decide +kernel
theorem d_M_cutAll_165 : decode b_M_cutAll 165 = .ok (.goto (-135), 3) := by decide +kernel
theorem d_M_cutAll_168 : decode b_M_cutAll 168 = .ok (.aload_n 0, 1) := by decide +kernel
theorem d_M_cutAll_169 : decode b_M_cutAll 169 = .ok (.iload_n 1, 1) := by decide +kernel
theorem d_M_cutAll_170 : decode b_M_cutAll 170 = .ok (.ldc 87, 2) := by decide +kernel
theorem d_M_cutAll_172 : decode b_M_cutAll 172 = .ok (.if_icmp .lt 7, 3) := by decide +kernel
theorem d_M_cutAll_175 : decode b_M_cutAll 175 = .ok (.iconst (-1), 1) := by decide +kernel
theorem d_M_cutAll_176 : decode b_M_cutAll 176 = .ok (.goto 7, 3) := by decide +kernel
theorem d_M_cutAll_179 : decode b_M_cutAll 179 = .ok (.aload_n 0, 1) := by decide +kernel
theorem d_M_cutAll_180 : decode b_M_cutAll 180 = .ok (.getfield 121, 3) := by decide +kernel
theorem d_M_cutAll_183 : decode b_M_cutAll 183 = .ok (.putfield 121, 3) := by decide +kernel
theorem d_M_cutAll_186 : decode b_M_cutAll 186 = .ok (.return_, 1) := by decide +kernel
theorem d_M_cuts_0 : decode b_M_cuts 0 = .ok (.aload_n 0, 1) := by decide +kernel
theorem d_M_cuts_1 : decode b_M_cuts 1 = .ok (.iconst 0, 1) := by decide +kernel
theorem d_M_cuts_2 : decode b_M_cuts 2 = .ok (.putfield 44, 3) := by decide +kernel
theorem d_M_cuts_5 : decode b_M_cuts 5 = .ok (.aload_n 0, 1) := by decide +kernel
theorem d_M_cuts_6 : decode b_M_cuts 6 = .ok (.invokevirtual 137, 3) := by decide +kernel
theorem d_M_cuts_9 : decode b_M_cuts 9 = .ok (.aload_n 0, 1) := by decide +kernel
theorem d_M_cuts_10 : decode b_M_cuts 10 = .ok (.getfield 121, 3) := by decide +kernel
theorem d_M_cuts_13 : decode b_M_cuts 13 = .ok (.ireturn, 1) := by decide +kernel
theorem d_M_cut_0 : decode b_M_cut 0 = .ok (.aload_n 0, 1) := by decide +kernel
theorem d_M_cut_1 : decode b_M_cut 1 = .ok (.iconst 0, 1) := by decide +kernel
theorem d_M_cut_2 : decode b_M_cut 2 = .ok (.putfield 44, 3) := by decide +kernel
theorem d_M_cut_5 : decode b_M_cut 5 = .ok (.aload_n 0, 1) := by decide +kernel
theorem d_M_cut_6 : decode b_M_cut 6 = .ok (.invokevirtual 137, 3) := by decide +kernel
theorem d_M_cut_9 : decode b_M_cut 9 = .ok (.iload_n 1, 1) := by decide +kernel
theorem d_M_cut_10 : decode b_M_cut 10 = .ok (.ifCond .lt 11, 3) := by decide +kernel
theorem d_M_cut_13 : decode b_M_cut 13 = .ok (.iload_n 1, 1) := by decide +kernel
theorem d_M_cut_14 : decode b_M_cut 14 = .ok (.aload_n 0, 1) := by decide +kernel
theorem d_M_cut_15 : decode b_M_cut 15 = .ok (.getfield 118, 3) := by decide +kernel
theorem d_M_cut_18 : decode b_M_cut 18 = .ok (.if_icmp .lt 7, 3) := by decide +kernel
theorem d_M_cut_21 : decode b_M_cut 21 = .ok (.iconst 0, 1) := by decide +kernel
theorem d_M_cut_22 : decode b_M_cut 22 = .ok (.goto 9, 3) := by decide +kernel
theorem d_M_cut_25 : decode b_M_cut 25 = .ok (.aload_n 0, 1) := by decide +kernel
theorem d_M_cut_26 : decode b_M_cut 26 = .ok (.getfield 41, 3) := by decide +kernel
theorem d_M_cut_29 : decode b_M_cut 29 = .ok (.iload_n 1, 1) := by decide +kernel
theorem d_M_cut_30 : decode b_M_cut 30 = .ok (.iaload, 1) := by decide +kernel
theorem d_M_cut_31 : decode b_M_cut 31 = .ok (.ireturn, 1) := by decide +kernel
theorem d_M_landmark_0 : decode b_M_landmark 0 = .ok (.aload_n 0, 1) := by decide +kernel
theorem d_M_landmark_1 : decode b_M_landmark 1 = .ok (.aload_n 0, 1) := by decide +kernel
theorem d_M_landmark_2 : decode b_M_landmark 2 = .ok (.iload_n 1, 1) := by decide +kernel
theorem d_M_landmark_3 : decode b_M_landmark 3 = .ok (.invokevirtual 73, 3) := by decide +kernel
theorem d_M_landmark_6 : decode b_M_landmark 6 = .ok (.ifCond .eq 7, 3) := by decide +kernel
theorem d_M_landmark_9 : decode b_M_landmark 9 = .ok (.iconst 1, 1) := by decide +kernel
theorem d_M_landmark_10 : decode b_M_landmark 10 = .ok (.goto 4, 3) := by decide +kernel
theorem d_M_landmark_13 : decode b_M_landmark 13 = .ok (.iconst 0, 1) := by decide +kernel
theorem d_M_landmark_14 : decode b_M_landmark 14 = .ok (.putfield 44, 3) := by decide +kernel
theorem d_M_landmark_17 : decode b_M_landmark 17 = .ok (.aload_n 0, 1) := by decide +kernel
theorem d_M_landmark_18 : decode b_M_landmark 18 = .ok (.getfield 44, 3) := by decide +kernel
theorem d_M_landmark_21 : decode b_M_landmark 21 = .ok (.ifCond .le 5, 3) := by decide +kernel
theorem d_M_landmark_24 : decode b_M_landmark 24 = .ok (.iconst 0, 1) := by decide +kernel
theorem d_M_landmark_25 : decode b_M_landmark 25 = .ok (.ireturn, 1) := by decide +kernel
theorem d_M_landmark_26 : decode b_M_landmark 26 = .ok (.aload_n 0, 1) := by decide +kernel
theorem d_M_landmark_27 : decode b_M_landmark 27 = .ok (.invokevirtual 105, 3) := by decide +kernel
theorem d_M_landmark_30 : decode b_M_landmark 30 = .ok (.aload_n 0, 1) := by decide +kernel
theorem d_M_landmark_31 : decode b_M_landmark 31 = .ok (.iconst 0, 1) := by decide +kernel
theorem d_M_landmark_32 : decode b_M_landmark 32 = .ok (.iconst 1, 1) := by decide +kernel
theorem d_M_landmark_33 : decode b_M_landmark 33 = .ok (.iload_n 1, 1) := by decide +kernel
theorem d_M_landmark_34 : decode b_M_landmark 34 = .ok (.ishl, 1) := by decide +kernel
theorem d_M_landmark_35 : decode b_M_landmark 35 = .ok (.invokevirtual 108, 3) := by decide +kernel
theorem d_M_landmark_38 : decode b_M_landmark 38 = .ok (.aload_n 0, 1) := by decide +kernel
theorem d_M_landmark_39 : decode b_M_landmark 39 = .ok (.getfield 60, 3) := by decide +kernel
theorem d_M_landmark_42 : decode b_M_landmark 42 = .ok (.iload_n 1, 1) := by decide +kernel
theorem d_M_landmark_43 : decode b_M_landmark 43 = .ok (.ishr, 1) := by decide +kernel
theorem d_M_landmark_44 : decode b_M_landmark 44 = .ok (.iconst 1, 1) := by decide +kernel
theorem d_M_landmark_45 : decode b_M_landmark 45 = .ok (.iand, 1) := by decide +kernel
theorem d_M_landmark_46 : decode b_M_landmark 46 = .ok (.iconst 1, 1) := by decide +kernel
theorem d_M_landmark_47 : decode b_M_landmark 47 = .ok (.if_icmp .eq 17, 3) := by decide +kernel
theorem d_M_landmark_50 : decode b_M_landmark 50 = .ok (.aload_n 0, 1) := by decide +kernel
theorem d_M_landmark_51 : decode b_M_landmark 51 = .ok (.aload_n 0, 1) := by decide +kernel
theorem d_M_landmark_52 : decode b_M_landmark 52 = .ok (.getfield 63, 3) := by decide +kernel
theorem d_M_landmark_55 : decode b_M_landmark 55 = .ok (.iconst 0, 1) := by decide +kernel
theorem d_M_landmark_56 : decode b_M_landmark 56 = .ok (.invokevirtual 101, 3) := by decide +kernel
theorem d_M_landmark_59 : decode b_M_landmark 59 = .ok (.ldc 87, 2) := by decide +kernel
theorem d_M_landmark_61 : decode b_M_landmark 61 = .ok (.if_icmp .lt 7, 3) := by decide +kernel
theorem d_M_landmark_64 : decode b_M_landmark 64 = .ok (.iconst 1, 1) := by decide +kernel
theorem d_M_landmark_65 : decode b_M_landmark 65 = .ok (.goto 4, 3) := by decide +kernel
theorem d_M_landmark_68 : decode b_M_landmark 68 = .ok (.iconst 0, 1) := by decide +kernel
theorem d_M_landmark_69 : decode b_M_landmark 69 = .ok (.ireturn, 1) := by decide +kernel
theorem d_M_draft_0 : decode b_M_draft 0 = .ok (.aload_n 0, 1) := by decide +kernel
theorem d_M_draft_1 : decode b_M_draft 1 = .ok (.aload_n 0, 1) := by decide +kernel
theorem d_M_draft_2 : decode b_M_draft 2 = .ok (.iload_n 1, 1) := by decide +kernel
theorem d_M_draft_3 : decode b_M_draft 3 = .ok (.invokevirtual 69, 3) := by decide +kernel
theorem d_M_draft_6 : decode b_M_draft 6 = .ok (.ifCond .eq 7, 3) := by decide +kernel
theorem d_M_draft_9 : decode b_M_draft 9 = .ok (.iconst 1, 1) := by decide +kernel
theorem d_M_draft_10 : decode b_M_draft 10 = .ok (.goto 17, 3) := by decide +kernel
theorem d_M_draft_13 : decode b_M_draft 13 = .ok (.aload_n 0, 1) := by decide +kernel
theorem d_M_draft_14 : decode b_M_draft 14 = .ok (.getfield 54, 3) := by decide +kernel
theorem d_M_draft_17 : decode b_M_draft 17 = .ok (.bipush 24, 2) := by decide +kernel
theorem d_M_draft_19 : decode b_M_draft 19 = .ok (.if_icmp .ne 7, 3) := by decide +kernel
theorem d_M_draft_22 : decode b_M_draft 22 = .ok (.iconst 2, 1) := by decide +kernel
theorem d_M_draft_23 : decode b_M_draft 23 = .ok (.goto 4, 3) := by decide +kernel
theorem d_M_draft_26 : decode b_M_draft 26 = .ok (.iconst 0, 1) := by decide +kernel
theorem d_M_draft_27 : decode b_M_draft 27 = .ok (.putfield 44, 3) := by decide +kernel
theorem d_M_draft_30 : decode b_M_draft 30 = .ok (.aload_n 0, 1) := by decide +kernel
theorem d_M_draft_31 : decode b_M_draft 31 = .ok (.getfield 44, 3) := by decide +kernel
theorem d_M_draft_34 : decode b_M_draft 34 = .ok (.ifCond .le 5, 3) := by decide +kernel
theorem d_M_draft_37 : decode b_M_draft 37 = .ok (.iconst 0, 1) := by decide +kernel
theorem d_M_draft_38 : decode b_M_draft 38 = .ok (.ireturn, 1) := by decide +kernel
theorem d_M_draft_39 : decode b_M_draft 39 = .ok (.aload_n 0, 1) := by decide +kernel
theorem d_M_draft_40 : decode b_M_draft 40 = .ok (.getfield 25, 3) := by decide +kernel
theorem d_M_draft_43 : decode b_M_draft 43 = .ok (.aload_n 0, 1) := by decide +kernel
theorem d_M_draft_44 : decode b_M_draft 44 = .ok (.getfield 54, 3) := by decide +kernel
theorem d_M_draft_47 : decode b_M_draft 47 = .ok (.iload_n 1, 1) := by decide +kernel
theorem d_M_draft_48 : decode b_M_draft 48 = .ok (.iastore, 1) := by decide +kernel
theorem d_M_draft_49 : decode b_M_draft 49 = .ok (.aload_n 0, 1) := by decide +kernel
theorem d_M_draft_50 : decode b_M_draft 50 = .ok (.dup, 1) := by decide +kernel
theorem d_M_draft_51 : decode b_M_draft 51 = .ok (.getfield 54, 3) := by decide +kernel
theorem d_M_draft_54 : decode b_M_draft 54 = .ok (.iconst 1, 1) := by decide +kernel
theorem d_M_draft_55 : decode b_M_draft 55 = .ok (.iadd, 1) := by decide +kernel
theorem d_M_draft_56 : decode b_M_draft 56 = .ok (.putfield 54, 3) := by decide +kernel
theorem d_M_draft_59 : decode b_M_draft 59 = .ok (.aload_n 0, 1) := by decide +kernel
theorem d_M_draft_60 : decode b_M_draft 60 = .ok (.getfield 54, 3) := by decide +kernel
theorem d_M_draft_63 : decode b_M_draft 63 = .ok (.ireturn, 1) := by decide +kernel
theorem d_M_wipe_0 : decode b_M_wipe 0 = .ok (.aload_n 0, 1) := by decide +kernel
theorem d_M_wipe_1 : decode b_M_wipe 1 = .ok (.iconst 0, 1) := by decide +kernel
theorem d_M_wipe_2 : decode b_M_wipe 2 = .ok (.putfield 44, 3) := by decide +kernel
theorem d_M_wipe_5 : decode b_M_wipe 5 = .ok (.aload_n 0, 1) := by decide +kernel
theorem d_M_wipe_6 : decode b_M_wipe 6 = .ok (.iconst 0, 1) := by decide +kernel
theorem d_M_wipe_7 : decode b_M_wipe 7 = .ok (.putfield 54, 3) := by decide +kernel
theorem d_M_wipe_10 : decode b_M_wipe 10 = .ok (.return_, 1) := by decide +kernel
theorem d_M_check_0 : decode b_M_check 0 = .ok (.aload_n 0, 1) := by decide +kernel
theorem d_M_check_1 : decode b_M_check 1 = .ok (.iconst 0, 1) := by decide +kernel
theorem d_M_check_2 : decode b_M_check 2 = .ok (.putfield 44, 3) := by decide +kernel
theorem d_M_check_5 : decode b_M_check 5 = .ok (.aload_n 0, 1) := by decide +kernel
theorem d_M_check_6 : decode b_M_check 6 = .ok (.getfield 60, 3) := by decide +kernel
theorem d_M_check_9 : decode b_M_check 9 = .ok (.istore_n 1, 1) := by decide +kernel
theorem d_M_check_10 : decode b_M_check 10 = .ok (.iconst 0, 1) := by decide +kernel
theorem d_M_check_11 : decode b_M_check 11 = .ok (.istore_n 2, 1) := by decide +kernel
theorem d_M_check_12 : decode b_M_check 12 = .ok (.iload_n 2, 1) := by decide +kernel
theorem d_M_check_13 : decode b_M_check 13 = .ok (.aload_n 0, 1) := by decide +kernel
theorem d_M_check_14 : decode b_M_check 14 = .ok (.getfield 54, 3) := by decide +kernel
theorem d_M_check_17 : decode b_M_check 17 = .ok (.if_icmp .ge 37, 3) := by decide +kernel
theorem d_M_check_20 : decode b_M_check 20 = .ok (.aload_n 0, 1) := by decide +kernel
theorem d_M_check_21 : decode b_M_check 21 = .ok (.aload_n 0, 1) := by decide +kernel
theorem d_M_check_22 : decode b_M_check 22 = .ok (.getfield 25, 3) := by decide +kernel
theorem d_M_check_25 : decode b_M_check 25 = .ok (.iload_n 2, 1) := by decide +kernel
theorem d_M_check_26 : decode b_M_check 26 = .ok (.iaload, 1) := by decide +kernel
theorem d_M_check_27 : decode b_M_check 27 = .ok (.iload_n 1, 1) := by decide +kernel
theorem d_M_check_28 : decode b_M_check 28 = .ok (.invokevirtual 76, 3) := by decide +kernel
theorem d_M_check_31 : decode b_M_check 31 = .ok (.ifCond .ne 5, 3) := by decide +kernel
theorem d_M_check_34 : decode b_M_check 34 = .ok (.iload_n 2, 1) := by decide +kernel
theorem d_M_check_35 : decode b_M_check 35 = .ok (.ireturn, 1) := by decide +kernel
theorem d_M_check_36 : decode b_M_check 36 = .ok (.aload_n 0, 1) := by decide +kernel
theorem d_M_check_37 : decode b_M_check 37 = .ok (.aload_n 0, 1) := by decide +kernel
theorem d_M_check_38 : decode b_M_check 38 = .ok (.getfield 25, 3) := by decide +kernel
theorem d_M_check_41 : decode b_M_check 41 = .ok (.iload_n 2, 1) := by decide +kernel
theorem d_M_check_42 : decode b_M_check 42 = .ok (.iaload, 1) := by decide +kernel
theorem d_M_check_43 : decode b_M_check 43 = .ok (.iload_n 1, 1) := by decide +kernel
theorem d_M_check_44 : decode b_M_check 44 = .ok (.invokevirtual 80, 3) := by decide +kernel
theorem d_M_check_47 : decode b_M_check 47 = .ok (.istore_n 1, 1) := by decide +kernel
theorem d_M_check_48 : decode b_M_check 48 = .ok (.iinc 2 1, 3) := by decide +kernel
theorem d_M_check_51 : decode b_M_check 51 = .ok (.goto (-39), 3) := by decide +kernel
theorem d_M_check_54 : decode b_M_check 54 = .ok (.aload_n 0, 1) := by decide +kernel
theorem d_M_check_55 : decode b_M_check 55 = .ok (.iload_n 1, 1) := by decide +kernel
theorem d_M_check_56 : decode b_M_check 56 = .ok (.invokevirtual 84, 3) := by decide +kernel
theorem d_M_check_59 : decode b_M_check 59 = .ok (.ifCond .eq 7, 3) := by decide +kernel
theorem d_M_check_62 : decode b_M_check 62 = .ok (.iconst (-1), 1) := by decide +kernel
theorem d_M_check_63 : decode b_M_check 63 = .ok (.goto 7, 3) := by decide +kernel
theorem d_M_check_66 : decode b_M_check 66 = .ok (.aload_n 0, 1) := by decide +kernel
theorem d_M_check_67 : decode b_M_check 67 = .ok (.getfield 54, 3) := by decide +kernel
theorem d_M_check_70 : decode b_M_check 70 = .ok (.ireturn, 1) := by decide +kernel
theorem d_M_cost_0 : decode b_M_cost 0 = .ok (.aload_n 0, 1) := by decide +kernel
theorem d_M_cost_1 : decode b_M_cost 1 = .ok (.iconst 0, 1) := by decide +kernel
theorem d_M_cost_2 : decode b_M_cost 2 = .ok (.putfield 44, 3) := by decide +kernel
theorem d_M_cost_5 : decode b_M_cost 5 = .ok (.iconst 0, 1) := by decide +kernel
theorem d_M_cost_6 : decode b_M_cost 6 = .ok (.istore_n 1, 1) := by decide +kernel
theorem d_M_cost_7 : decode b_M_cost 7 = .ok (.iconst 0, 1) := by decide +kernel
theorem d_M_cost_8 : decode b_M_cost 8 = .ok (.istore_n 2, 1) := by decide +kernel
theorem d_M_cost_9 : decode b_M_cost 9 = .ok (.iload_n 2, 1) := by decide +kernel
theorem d_M_cost_10 : decode b_M_cost 10 = .ok (.aload_n 0, 1) := by decide +kernel
theorem d_M_cost_11 : decode b_M_cost 11 = .ok (.getfield 54, 3) := by decide +kernel
theorem d_M_cost_14 : decode b_M_cost 14 = .ok (.if_icmp .ge 23, 3) := by decide +kernel
theorem d_M_cost_17 : decode b_M_cost 17 = .ok (.iload_n 1, 1) := by decide +kernel
theorem d_M_cost_18 : decode b_M_cost 18 = .ok (.aload_n 0, 1) := by decide +kernel
theorem d_M_cost_19 : decode b_M_cost 19 = .ok (.getfield 7, 3) := by decide +kernel
theorem d_M_cost_22 : decode b_M_cost 22 = .ok (.aload_n 0, 1) := by decide +kernel
theorem d_M_cost_23 : decode b_M_cost 23 = .ok (.getfield 25, 3) := by decide +kernel
theorem d_M_cost_26 : decode b_M_cost 26 = .ok (.iload_n 2, 1) := by decide +kernel
theorem d_M_cost_27 : decode b_M_cost 27 = .ok (.iaload, 1) := by decide +kernel
theorem d_M_cost_28 : decode b_M_cost 28 = .ok (.iaload, 1) := by decide +kernel
theorem d_M_cost_29 : decode b_M_cost 29 = .ok (.iadd, 1) := by decide +kernel
theorem d_M_cost_30 : decode b_M_cost 30 = .ok (.istore_n 1, 1) := by decide +kernel
theorem d_M_cost_31 : decode b_M_cost 31 = .ok (.iinc 2 1, 3) := by decide +kernel
theorem d_M_cost_34 : decode b_M_cost 34 = .ok (.goto (-25), 3) := by decide +kernel
theorem d_M_cost_37 : decode b_M_cost 37 = .ok (.iload_n 1, 1) := by decide +kernel
theorem d_M_cost_38 : decode b_M_cost 38 = .ok (.ireturn, 1) := by decide +kernel
end
section
theorem d_P_init_0 : decode b_P_init 0 = .ok (.aload_n 0, 1) := by decide +kernel
theorem d_P_init_1 : decode b_P_init 1 = .ok (.invokespecial 3, 3) := by decide +kernel
theorem d_P_init_4 : decode b_P_init 4 = .ok (.aload_n 0, 1) := by decide +kernel
theorem d_P_init_5 : decode b_P_init 5 = .ok (.new 9, 3) := by decide +kernel
theorem d_P_init_8 : decode b_P_init 8 = .ok (.dup, 1) := by decide +kernel
theorem d_P_init_9 : decode b_P_init 9 = .ok (.invokespecial 11, 3) := by decide +kernel
theorem d_P_init_12 : decode b_P_init 12 = .ok (.putfield 12, 3) := by decide +kernel
theorem d_P_init_15 : decode b_P_init 15 = .ok (.aload_n 0, 1) := by decide +kernel
theorem d_P_init_16 : decode b_P_init 16 = .ok (.new 16, 3) := by decide +kernel
theorem d_P_init_19 : decode b_P_init 19 = .ok (.dup, 1) := by decide +kernel
theorem d_P_init_20 : decode b_P_init 20 = .ok (.aload_n 0, 1) := by decide +kernel
theorem d_P_init_21 : decode b_P_init 21 = .ok (.getfield 12, 3) := by decide +kernel
theorem d_P_init_24 : decode b_P_init 24 = .ok (.invokespecial 18, 3) := by decide +kernel
theorem d_P_init_27 : decode b_P_init 27 = .ok (.putfield 21, 3) := by decide +kernel
theorem d_P_init_30 : decode b_P_init 30 = .ok (.aload_n 0, 1) := by decide +kernel
theorem d_P_init_31 : decode b_P_init 31 = .ok (.new 25, 3) := by decide +kernel
theorem d_P_init_34 : decode b_P_init 34 = .ok (.dup, 1) := by decide +kernel
theorem d_P_init_35 : decode b_P_init 35 = .ok (.sipush 1023, 3) := by decide +kernel
theorem d_P_init_38 : decode b_P_init 38 = .ok (.invokespecial 27, 3) := by decide +kernel
theorem d_P_init_41 : decode b_P_init 41 = .ok (.putfield 30, 3) := by decide +kernel
theorem d_P_init_44 : decode b_P_init 44 = .ok (.aload_n 0, 1) := by decide +kernel
theorem d_P_init_45 : decode b_P_init 45 = .ok (.new 25, 3) := by decide +kernel
theorem d_P_init_48 : decode b_P_init 48 = .ok (.dup, 1) := by decide +kernel
theorem d_P_init_49 : decode b_P_init 49 = .ok (.bipush 24, 2) := by decide +kernel
theorem d_P_init_51 : decode b_P_init 51 = .ok (.invokespecial 27, 3) := by decide +kernel
theorem d_P_init_54 : decode b_P_init 54 = .ok (.putfield 34, 3) := by decide +kernel
theorem d_P_init_57 : decode b_P_init 57 = .ok (.aload_n 0, 1) := by decide +kernel
theorem d_P_init_58 : decode b_P_init 58 = .ok (.new 37, 3) := by decide +kernel
theorem d_P_init_61 : decode b_P_init 61 = .ok (.dup, 1) := by decide +kernel
theorem d_P_init_62 : decode b_P_init 62 = .ok (.aload_n 0, 1) := by decide +kernel
theorem d_P_init_63 : decode b_P_init 63 = .ok (.getfield 12, 3) := by decide +kernel
theorem d_P_init_66 : decode b_P_init 66 = .ok (.invokespecial 39, 3) := by decide +kernel
theorem d_P_init_69 : decode b_P_init 69 = .ok (.putfield 40, 3) := by decide +kernel
theorem d_P_init_72 : decode b_P_init 72 = .ok (.aload_n 0, 1) := by decide +kernel
theorem d_P_init_73 : decode b_P_init 73 = .ok (.new 44, 3) := by decide +kernel
theorem d_P_init_76 : decode b_P_init 76 = .ok (.dup, 1) := by decide +kernel
theorem d_P_init_77 : decode b_P_init 77 = .ok (.aload_n 0, 1) := by decide +kernel
theorem d_P_init_78 : decode b_P_init 78 = .ok (.getfield 12, 3) := by decide +kernel
theorem d_P_init_81 : decode b_P_init 81 = .ok (.aload_n 0, 1) := by decide +kernel
theorem d_P_init_82 : decode b_P_init 82 = .ok (.getfield 40, 3) := by decide +kernel
theorem d_P_init_85 : decode b_P_init 85 = .ok (.invokespecial 46, 3) := by decide +kernel
theorem d_P_init_88 : decode b_P_init 88 = .ok (.putfield 49, 3) := by decide +kernel
theorem d_P_init_91 : decode b_P_init 91 = .ok (.aload_n 0, 1) := by decide +kernel
theorem d_P_init_92 : decode b_P_init 92 = .ok (.iconst 0, 1) := by decide +kernel
theorem d_P_init_93 : decode b_P_init 93 = .ok (.putfield 53, 3) := by decide +kernel
theorem d_P_init_96 : decode b_P_init 96 = .ok (.return_, 1) := by decide +kernel
theorem d_P_fact_0 : decode b_P_fact 0 = .ok (.aload_n 0, 1) := by decide +kernel
theorem d_P_fact_1 : decode b_P_fact 1 = .ok (.getfield 12, 3) := by decide +kernel
theorem d_P_fact_4 : decode b_P_fact 4 = .ok (.getfield 57, 3) := by decide +kernel
theorem d_P_fact_7 : decode b_P_fact 7 = .ok (.bipush 10, 2) := by decide +kernel
theorem d_P_fact_9 : decode b_P_fact 9 = .ok (.if_icmp .lt 13, 3) := by decide +kernel
theorem d_P_fact_12 : decode b_P_fact 12 = .ok (.new 60, 3) := by decide +kernel
theorem d_P_fact_15 : decode b_P_fact 15 = .ok (.dup, 1) := by decide +kernel
theorem d_P_fact_16 : decode b_P_fact 16 = .ok (.ldc 62, 2) := by decide +kernel
theorem d_P_fact_18 : decode b_P_fact 18 = .ok (.invokespecial 64, 3) := by decide +kernel
theorem d_P_fact_21 : decode b_P_fact 21 = .ok (.athrow, 1) := by decide +kernel
theorem d_P_fact_22 : decode b_P_fact 22 = .ok (.aload_n 0, 1) := by decide +kernel
theorem d_P_fact_23 : decode b_P_fact 23 = .ok (.getfield 12, 3) := by decide +kernel
theorem d_P_fact_26 : decode b_P_fact 26 = .ok (.iload_n 1, 1) := by decide +kernel
theorem d_P_fact_27 : decode b_P_fact 27 = .ok (.iload_n 2, 1) := by decide +kernel
theorem d_P_fact_28 : decode b_P_fact 28 = .ok (.invokevirtual 67, 3) := by decide +kernel
theorem d_P_fact_31 : decode b_P_fact 31 = .ok (.istore_n 3, 1) := by decide +kernel
theorem d_P_fact_32 : decode b_P_fact 32 = .ok (.aload_n 0, 1) := by decide +kernel
theorem d_P_fact_33 : decode b_P_fact 33 = .ok (.invokevirtual 71, 3) := by decide +kernel
theorem d_P_fact_36 : decode b_P_fact 36 = .ok (.iload_n 3, 1) := by decide +kernel
theorem d_P_fact_37 : decode b_P_fact 37 = .ok (.ireturn, 1) := by decide +kernel
theorem d_P_action_0 : decode b_P_action 0 = .ok (.iload_n 1, 1) := by decide +kernel
theorem d_P_action_1 : decode b_P_action 1 = .ok (.iconst 1, 1) := by decide +kernel
theorem d_P_action_2 : decode b_P_action 2 = .ok (.if_icmp .lt 9, 3) := by decide +kernel
theorem d_P_action_5 : decode b_P_action 5 = .ok (.iload_n 1, 1) := by decide +kernel
theorem d_P_action_6 : decode b_P_action 6 = .ok (.bipush 9, 2) := by decide +kernel
theorem d_P_action_8 : decode b_P_action 8 = .ok (.if_icmp .le 13, 3) := by decide +kernel
theorem d_P_action_11 : decode b_P_action 11 = .ok (.new 74, 3) := by decide +kernel
theorem d_P_action_14 : decode b_P_action 14 = .ok (.dup, 1) := by decide +kernel
theorem d_P_action_15 : decode b_P_action 15 = .ok (.ldc 76, 2) := by decide +kernel
theorem d_P_action_17 : decode b_P_action 17 = .ok (.invokespecial 78, 3) := by decide +kernel
theorem d_P_action_20 : decode b_P_action 20 = .ok (.athrow, 1) := by decide +kernel
theorem d_P_action_21 : decode b_P_action 21 = .ok (.aload_n 0, 1) := by decide +kernel
theorem d_P_action_22 : decode b_P_action 22 = .ok (.getfield 12, 3) := by decide +kernel
theorem d_P_action_25 : decode b_P_action 25 = .ok (.getfield 79, 3) := by decide +kernel
theorem d_P_action_28 : decode b_P_action 28 = .ok (.bipush 12, 2) := by decide +kernel
theorem d_P_action_30 : decode b_P_action 30 = .ok (.if_icmp .lt 13, 3) := by decide +kernel
theorem d_P_action_33 : decode b_P_action 33 = .ok (.new 60, 3) := by decide +kernel
theorem d_P_action_36 : decode b_P_action 36 = .ok (.dup, 1) := by decide +kernel
theorem d_P_action_37 : decode b_P_action 37 = .ok (.ldc 82, 2) := by decide +kernel
theorem d_P_action_39 : decode b_P_action 39 = .ok (.invokespecial 64, 3) := by decide +kernel
theorem d_P_action_42 : decode b_P_action 42 = .ok (.athrow, 1) := by decide +kernel
theorem d_P_action_43 : decode b_P_action 43 = .ok (.aload_n 0, 1) := by decide +kernel
theorem d_P_action_44 : decode b_P_action 44 = .ok (.getfield 12, 3) := by decide +kernel
theorem d_P_action_47 : decode b_P_action 47 = .ok (.iload_n 1, 1) := by decide +kernel
theorem d_P_action_48 : decode b_P_action 48 = .ok (.invokevirtual 84, 3) := by decide +kernel
theorem d_P_action_51 : decode b_P_action 51 = .ok (.istore_n 2, 1) := by decide +kernel
theorem d_P_action_52 : decode b_P_action 52 = .ok (.aload_n 0, 1) := by decide +kernel
theorem d_P_action_53 : decode b_P_action 53 = .ok (.invokevirtual 71, 3) := by decide +kernel
theorem d_P_action_56 : decode b_P_action 56 = .ok (.iload_n 2, 1) := by decide +kernel
theorem d_P_action_57 : decode b_P_action 57 = .ok (.ireturn, 1) := by decide +kernel
theorem d_P_link_0 : decode b_P_link 0 = .ok (.aload_n 0, 1) := by decide +kernel
theorem d_P_link_1 : decode b_P_link 1 = .ok (.iload_n 2, 1) := by decide +kernel
theorem d_P_link_2 : decode b_P_link 2 = .ok (.invokevirtual 88, 3) := by decide +kernel
theorem d_P_link_5 : decode b_P_link 5 = .ok (.aload_n 0, 1) := by decide +kernel
theorem d_P_link_6 : decode b_P_link 6 = .ok (.iload_n 3, 1) := by decide +kernel
theorem d_P_link_7 : decode b_P_link 7 = .ok (.invokevirtual 91, 3) := by decide +kernel
theorem d_P_link_10 : decode b_P_link 10 = .ok (.iload_n 1, 1) := by decide +kernel
theorem d_P_link_11 : decode b_P_link 11 = .ok (.ifCond .lt 8, 3) := by decide +kernel
theorem d_P_link_14 : decode b_P_link 14 = .ok (.iload_n 1, 1) := by decide +kernel
theorem d_P_link_15 : decode b_P_link 15 = .ok (.iconst 3, 1) := by decide +kernel
theorem d_P_link_16 : decode b_P_link 16 = .ok (.if_icmp .lt 13, 3) := by decide +kernel
theorem d_P_link_19 : decode b_P_link 19 = .ok (.new 74, 3) := by decide +kernel
theorem d_P_link_22 : decode b_P_link 22 = .ok (.dup, 1) := by decide +kernel
theorem d_P_link_23 : decode b_P_link 23 = .ok (.ldc 94, 2) := by decide +kernel
theorem d_P_link_25 : decode b_P_link 25 = .ok (.invokespecial 78, 3) := by decide +kernel
theorem d_P_link_28 : decode b_P_link 28 = .ok (.athrow, 1) := by decide +kernel
theorem d_P_link_29 : decode b_P_link 29 = .ok (.aload_n 0, 1) := by decide +kernel
theorem d_P_link_30 : decode b_P_link 30 = .ok (.getfield 12, 3) := by decide +kernel
theorem d_P_link_33 : decode b_P_link 33 = .ok (.getfield 96, 3) := by decide +kernel
theorem d_P_link_36 : decode b_P_link 36 = .ok (.iload_n 1, 1) := by decide +kernel
theorem d_P_link_37 : decode b_P_link 37 = .ok (.aaload, 1) := by decide +kernel
theorem d_P_link_38 : decode b_P_link 38 = .ok (.iload_n 2, 1) := by decide +kernel
theorem d_P_link_39 : decode b_P_link 39 = .ok (.iaload, 1) := by decide +kernel
theorem d_P_link_40 : decode b_P_link 40 = .ok (.iload_n 3, 1) := by decide +kernel
theorem d_P_link_41 : decode b_P_link 41 = .ok (.invokestatic 100, 3) := by decide +kernel
theorem d_P_link_44 : decode b_P_link 44 = .ok (.ifCond .eq 13, 3) := by decide +kernel
theorem d_P_link_47 : decode b_P_link 47 = .ok (.new 60, 3) := by decide +kernel
theorem d_P_link_50 : decode b_P_link 50 = .ok (.dup, 1) := by decide +kernel
theorem d_P_link_51 : decode b_P_link 51 = .ok (.ldc 104, 2) := by decide +kernel
theorem d_P_link_53 : decode b_P_link 53 = .ok (.invokespecial 64, 3) := by decide +kernel
theorem d_P_link_56 : decode b_P_link 56 = .ok (.athrow, 1) := by decide +kernel
theorem d_P_link_57 : decode b_P_link 57 = .ok (.aload_n 0, 1) := by decide +kernel
theorem d_P_link_58 : decode b_P_link 58 = .ok (.getfield 12, 3) := by decide +kernel
theorem d_P_link_61 : decode b_P_link 61 = .ok (.getfield 96, 3) := by decide +kernel
theorem d_P_link_64 : decode b_P_link 64 = .ok (.iload_n 1, 1) := by decide +kernel
theorem d_P_link_65 : decode b_P_link 65 = .ok (.aaload, 1) := by decide +kernel
theorem d_P_link_66 : decode b_P_link 66 = .ok (.iload_n 2, 1) := by decide +kernel
theorem d_P_link_67 : decode b_P_link 67 = .ok (.dup2, 1) := by decide +kernel
theorem d_P_link_68 : decode b_P_link 68 = .ok (.iaload, 1) := by decide +kernel
theorem d_P_link_69 : decode b_P_link 69 = .ok (.iconst 1, 1) := by decide +kernel
theorem d_P_link_70 : decode b_P_link 70 = .ok (.iload_n 3, 1) := by decide +kernel
theorem d_P_link_71 : decode b_P_link 71 = .ok (.ishl, 1) := by decide +kernel
theorem d_P_link_72 : decode b_P_link 72 = .ok (.ior, 1) := by decide +kernel
theorem d_P_link_73 : decode b_P_link 73 = .ok (.iastore, 1) := by decide +kernel
theorem d_P_link_74 : decode b_P_link 74 = .ok (.aload_n 0, 1) := by decide +kernel
theorem d_P_link_75 : decode b_P_link 75 = .ok (.invokevirtual 71, 3) := by decide +kernel
theorem d_P_link_78 : decode b_P_link 78 = .ok (.return_, 1) := by decide +kernel
theorem d_P_reset_0 : decode b_P_reset 0 = .ok (.aload_n 0, 1) := by decide +kernel
theorem d_P_reset_1 : decode b_P_reset 1 = .ok (.aload_n 0, 1) := by decide +kernel
theorem d_P_reset_2 : decode b_P_reset 2 = .ok (.getfield 12, 3) := by decide +kernel
theorem d_P_reset_5 : decode b_P_reset 5 = .ok (.getfield 106, 3) := by decide +kernel
theorem d_P_reset_8 : decode b_P_reset 8 = .ok (.putfield 53, 3) := by decide +kernel
theorem d_P_reset_11 : decode b_P_reset 11 = .ok (.return_, 1) := by decide +kernel
theorem d_P_holds_0 : decode b_P_holds 0 = .ok (.aload_n 0, 1) := by decide +kernel
theorem d_P_holds_1 : decode b_P_holds 1 = .ok (.iload_n 1, 1) := by decide +kernel
theorem d_P_holds_2 : decode b_P_holds 2 = .ok (.invokevirtual 91, 3) := by decide +kernel
theorem d_P_holds_5 : decode b_P_holds 5 = .ok (.aload_n 0, 1) := by decide +kernel
theorem d_P_holds_6 : decode b_P_holds 6 = .ok (.getfield 53, 3) := by decide +kernel
theorem d_P_holds_9 : decode b_P_holds 9 = .ok (.iload_n 1, 1) := by decide +kernel
theorem d_P_holds_10 : decode b_P_holds 10 = .ok (.invokestatic 100, 3) := by decide +kernel
theorem d_P_holds_13 : decode b_P_holds 13 = .ok (.ireturn, 1) := by decide +kernel
theorem d_P_applicable_0 : decode b_P_applicable 0 = .ok (.aload_n 0, 1) := by decide +kernel
theorem d_P_applicable_1 : decode b_P_applicable 1 = .ok (.iload_n 1, 1) := by decide +kernel
theorem d_P_applicable_2 : decode b_P_applicable 2 = .ok (.invokevirtual 88, 3) := by decide +kernel
theorem d_P_applicable_5 : decode b_P_applicable 5 = .ok (.aload_n 0, 1) := by decide +kernel
theorem d_P_applicable_6 : decode b_P_applicable 6 = .ok (.getfield 12, 3) := by decide +kernel
theorem d_P_applicable_9 : decode b_P_applicable 9 = .ok (.iload_n 1, 1) := by decide +kernel
theorem d_P_applicable_10 : decode b_P_applicable 10 = .ok (.aload_n 0, 1) := by decide +kernel
theorem d_P_applicable_11 : decode b_P_applicable 11 = .ok (.getfield 53, 3) := by decide +kernel
theorem d_P_applicable_14 : decode b_P_applicable 14 = .ok (.invokevirtual 109, 3) := by decide +kernel
theorem d_P_applicable_17 : decode b_P_applicable 17 = .ok (.ireturn, 1) := by decide +kernel
theorem d_P_apply_0 : decode b_P_apply 0 = .ok (.aload_n 0, 1) := by decide +kernel
theorem d_P_apply_1 : decode b_P_apply 1 = .ok (.iload_n 1, 1) := by decide +kernel
theorem d_P_apply_2 : decode b_P_apply 2 = .ok (.invokevirtual 88, 3) := by decide +kernel
theorem d_P_apply_5 : decode b_P_apply 5 = .ok (.aload_n 0, 1) := by decide +kernel
theorem d_P_apply_6 : decode b_P_apply 6 = .ok (.getfield 12, 3) := by decide +kernel
theorem d_P_apply_9 : decode b_P_apply 9 = .ok (.iload_n 1, 1) := by decide +kernel
theorem d_P_apply_10 : decode b_P_apply 10 = .ok (.aload_n 0, 1) := by decide +kernel
theorem d_P_apply_11 : decode b_P_apply 11 = .ok (.getfield 53, 3) := by decide +kernel
theorem d_P_apply_14 : decode b_P_apply 14 = .ok (.invokevirtual 109, 3) := by decide +kernel
theorem d_P_apply_17 : decode b_P_apply 17 = .ok (.ifCond .ne 13, 3) := by decide +kernel
theorem d_P_apply_20 : decode b_P_apply 20 = .ok (.new 60, 3) := by decide +kernel
theorem d_P_apply_23 : decode b_P_apply 23 = .ok (.dup, 1) := by decide +kernel
theorem d_P_apply_24 : decode b_P_apply 24 = .ok (.ldc 112, 2) := by decide +kernel
theorem d_P_apply_26 : decode b_P_apply 26 = .ok (.invokespecial 64, 3) := by decide +kernel
theorem d_P_apply_29 : decode b_P_apply 29 = .ok (.athrow, 1) := by decide +kernel
theorem d_P_apply_30 : decode b_P_apply 30 = .ok (.aload_n 0, 1) := by decide +kernel
theorem d_P_apply_31 : decode b_P_apply 31 = .ok (.aload_n 0, 1) := by decide +kernel
theorem d_P_apply_32 : decode b_P_apply 32 = .ok (.getfield 12, 3) := by decide +kernel
theorem d_P_apply_35 : decode b_P_apply 35 = .ok (.iload_n 1, 1) := by decide +kernel
theorem d_P_apply_36 : decode b_P_apply 36 = .ok (.aload_n 0, 1) := by decide +kernel
theorem d_P_apply_37 : decode b_P_apply 37 = .ok (.getfield 53, 3) := by decide +kernel
theorem d_P_apply_40 : decode b_P_apply 40 = .ok (.invokevirtual 114, 3) := by decide +kernel
theorem d_P_apply_43 : decode b_P_apply 43 = .ok (.putfield 53, 3) := by decide +kernel
theorem d_P_apply_46 : decode b_P_apply 46 = .ok (.aload_n 0, 1) := by decide +kernel
theorem d_P_apply_47 : decode b_P_apply 47 = .ok (.getfield 12, 3) := by decide +kernel
theorem d_P_apply_50 : decode b_P_apply 50 = .ok (.aload_n 0, 1) := by decide +kernel
theorem d_P_apply_51 : decode b_P_apply 51 = .ok (.getfield 53, 3) := by decide +kernel
theorem d_P_apply_54 : decode b_P_apply 54 = .ok (.invokevirtual 118, 3) := by decide +kernel
theorem d_P_apply_57 : decode b_P_apply 57 = .ok (.ireturn, 1) := by decide +kernel
theorem d_P_plan_0 : decode b_P_plan 0 = .ok (.aload_n 0, 1) := by decide +kernel
theorem d_P_plan_1 : decode b_P_plan 1 = .ok (.getfield 21, 3) := by decide +kernel
theorem d_P_plan_4 : decode b_P_plan 4 = .ok (.aload_n 0, 1) := by decide +kernel
theorem d_P_plan_5 : decode b_P_plan 5 = .ok (.getfield 53, 3) := by decide +kernel
theorem d_P_plan_8 : decode b_P_plan 8 = .ok (.invokevirtual 122, 3) := by decide +kernel
theorem d_P_plan_11 : decode b_P_plan 11 = .ok (.aload_n 0, 1) := by decide +kernel
theorem d_P_plan_12 : decode b_P_plan 12 = .ok (.getfield 30, 3) := by decide +kernel
theorem d_P_plan_15 : decode b_P_plan 15 = .ok (.invokevirtual 125, 3) := by decide +kernel
theorem d_P_plan_18 : decode b_P_plan 18 = .ok (.aload_n 0, 1) := by decide +kernel
theorem d_P_plan_19 : decode b_P_plan 19 = .ok (.getfield 21, 3) := by decide +kernel
theorem d_P_plan_22 : decode b_P_plan 22 = .ok (.invokevirtual 128, 3) := by decide +kernel
theorem d_P_plan_25 : decode b_P_plan 25 = .ok (.istore_n 1, 1) := by decide +kernel
theorem d_P_plan_26 : decode b_P_plan 26 = .ok (.iload_n 1, 1) := by decide +kernel
theorem d_P_plan_27 : decode b_P_plan 27 = .ok (.iconst (-1), 1) := by decide +kernel
theorem d_P_plan_28 : decode b_P_plan 28 = .ok (.if_icmp .eq 19, 3) := by decide +kernel
theorem d_P_plan_31 : decode b_P_plan 31 = .ok (.aload_n 0, 1) := by decide +kernel
theorem d_P_plan_32 : decode b_P_plan 32 = .ok (.getfield 21, 3) := by decide +kernel
theorem d_P_plan_35 : decode b_P_plan 35 = .ok (.aload_n 0, 1) := by decide +kernel
theorem d_P_plan_36 : decode b_P_plan 36 = .ok (.getfield 53, 3) := by decide +kernel
theorem d_P_plan_39 : decode b_P_plan 39 = .ok (.iload_n 1, 1) := by decide +kernel
theorem d_P_plan_40 : decode b_P_plan 40 = .ok (.aload_n 0, 1) := by decide +kernel
theorem d_P_plan_41 : decode b_P_plan 41 = .ok (.getfield 30, 3) := by decide +kernel
theorem d_P_plan_44 : decode b_P_plan 44 = .ok (.invokevirtual 132, 3) := by decide +kernel
theorem d_P_plan_47 : decode b_P_plan 47 = .ok (.iload_n 1, 1) := by decide +kernel
theorem d_P_plan_48 : decode b_P_plan 48 = .ok (.ireturn, 1) := by decide +kernel
theorem d_P_length_0 : decode b_P_length 0 = .ok (.aload_n 0, 1) := by decide +kernel
theorem d_P_length_1 : decode b_P_length 1 = .ok (.getfield 30, 3) := by decide +kernel
theorem d_P_length_4 : decode b_P_length 4 = .ok (.getfield 136, 3) := by decide +kernel
theorem d_P_length_7 : decode b_P_length 7 = .ok (.ireturn, 1) := by decide +kernel
theorem d_P_step_0 : decode b_P_step 0 = .ok (.iload_n 1, 1) := by decide +kernel
theorem d_P_step_1 : decode b_P_step 1 = .ok (.ifCond .lt 14, 3) := by decide +kernel
theorem d_P_step_4 : decode b_P_step 4 = .ok (.iload_n 1, 1) := by decide +kernel
theorem d_P_step_5 : decode b_P_step 5 = .ok (.aload_n 0, 1) := by decide +kernel
theorem d_P_step_6 : decode b_P_step 6 = .ok (.getfield 30, 3) := by decide +kernel
theorem d_P_step_9 : decode b_P_step 9 = .ok (.getfield 136, 3) := by decide +kernel
theorem d_P_step_12 : decode b_P_step 12 = .ok (.if_icmp .lt 7, 3) := by decide +kernel
theorem d_P_step_15 : decode b_P_step 15 = .ok (.iconst (-1), 1) := by decide +kernel
theorem d_P_step_16 : decode b_P_step 16 = .ok (.goto 12, 3) := by decide +kernel
theorem d_P_step_19 : decode b_P_step 19 = .ok (.aload_n 0, 1) := by decide +kernel
theorem d_P_step_20 : decode b_P_step 20 = .ok (.getfield 30, 3) := by decide +kernel
theorem d_P_step_23 : decode b_P_step 23 = .ok (.getfield 139, 3) := by decide +kernel
theorem d_P_step_26 : decode b_P_step 26 = .ok (.iload_n 1, 1) := by decide +kernel
theorem d_P_step_27 : decode b_P_step 27 = .ok (.iaload, 1) := by decide +kernel
theorem d_P_step_28 : decode b_P_step 28 = .ok (.ireturn, 1) := by decide +kernel
theorem d_P_states_0 : decode b_P_states 0 = .ok (.aload_n 0, 1) := by decide +kernel
theorem d_P_states_1 : decode b_P_states 1 = .ok (.getfield 21, 3) := by decide +kernel
theorem d_P_states_4 : decode b_P_states 4 = .ok (.aload_n 0, 1) := by decide +kernel
theorem d_P_states_5 : decode b_P_states 5 = .ok (.getfield 53, 3) := by decide +kernel
theorem d_P_states_8 : decode b_P_states 8 = .ok (.invokevirtual 122, 3) := by decide +kernel
theorem d_P_states_11 : decode b_P_states 11 = .ok (.aload_n 0, 1) := by decide +kernel
theorem d_P_states_12 : decode b_P_states 12 = .ok (.getfield 21, 3) := by decide +kernel
theorem d_P_states_15 : decode b_P_states 15 = .ok (.getfield 143, 3) := by decide +kernel
theorem d_P_states_18 : decode b_P_states 18 = .ok (.ireturn, 1) := by decide +kernel
theorem d_P_together_0 : decode b_P_together 0 = .ok (.aload_n 0, 1) := by decide +kernel
theorem d_P_together_1 : decode b_P_together 1 = .ok (.iload_n 1, 1) := by decide +kernel
theorem d_P_together_2 : decode b_P_together 2 = .ok (.invokevirtual 91, 3) := by decide +kernel
theorem d_P_together_5 : decode b_P_together 5 = .ok (.aload_n 0, 1) := by decide +kernel
theorem d_P_together_6 : decode b_P_together 6 = .ok (.iload_n 2, 1) := by decide +kernel
theorem d_P_together_7 : decode b_P_together 7 = .ok (.invokevirtual 91, 3) := by decide +kernel
theorem d_P_together_10 : decode b_P_together 10 = .ok (.aload_n 0, 1) := by decide +kernel
theorem d_P_together_11 : decode b_P_together 11 = .ok (.getfield 21, 3) := by decide +kernel
theorem d_P_together_14 : decode b_P_together 14 = .ok (.aload_n 0, 1) := by decide +kernel
theorem d_P_together_15 : decode b_P_together 15 = .ok (.getfield 53, 3) := by decide +kernel
theorem d_P_together_18 : decode b_P_together 18 = .ok (.invokevirtual 122, 3) := by decide +kernel
theorem d_P_together_21 : decode b_P_together 21 = .ok (.aload_n 0, 1) := by decide +kernel
theorem d_P_together_22 : decode b_P_together 22 = .ok (.getfield 21, 3) := by decide +kernel
theorem d_P_together_25 : decode b_P_together 25 = .ok (.iconst 1, 1) := by decide +kernel
theorem d_P_together_26 : decode b_P_together 26 = .ok (.iload_n 1, 1) := by decide +kernel
theorem d_P_together_27 : decode b_P_together 27 = .ok (.ishl, 1) := by decide +kernel
theorem d_P_together_28 : decode b_P_together 28 = .ok (.iconst 1, 1) := by decide +kernel
theorem d_P_together_29 : decode b_P_together 29 = .ok (.iload_n 2, 1) := by decide +kernel
theorem d_P_together_30 : decode b_P_together 30 = .ok (.ishl, 1) := by decide +kernel
theorem d_P_together_31 : decode b_P_together 31 = .ok (.ior, 1) := by decide +kernel
theorem d_P_together_32 : decode b_P_together 32 = .ok (.invokevirtual 146, 3) := by decide +kernel
theorem d_P_together_35 : decode b_P_together 35 = .ok (.ireturn, 1) := by decide +kernel
theorem d_P_level_0 : decode b_P_level 0 = .ok (.aload_n 0, 1) := by decide +kernel
theorem d_P_level_1 : decode b_P_level 1 = .ok (.iload_n 1, 1) := by decide +kernel
theorem d_P_level_2 : decode b_P_level 2 = .ok (.invokevirtual 91, 3) := by decide +kernel
theorem d_P_level_5 : decode b_P_level 5 = .ok (.aload_n 0, 1) := by decide +kernel
theorem d_P_level_6 : decode b_P_level 6 = .ok (.getfield 40, 3) := by decide +kernel
theorem d_P_level_9 : decode b_P_level 9 = .ok (.aload_n 0, 1) := by decide +kernel
theorem d_P_level_10 : decode b_P_level 10 = .ok (.getfield 53, 3) := by decide +kernel
theorem d_P_level_13 : decode b_P_level 13 = .ok (.aload_n 0, 1) := by decide +kernel
theorem d_P_level_14 : decode b_P_level 14 = .ok (.getfield 12, 3) := by decide +kernel
theorem d_P_level_17 : decode b_P_level 17 = .ok (.getfield 149, 3) := by decide +kernel
theorem d_P_level_20 : decode b_P_level 20 = .ok (.iload_n 2, 1) := by decide +kernel
theorem d_P_level_21 : decode b_P_level 21 = .ok (.iconst 0, 1) := by decide +kernel
theorem d_P_level_22 : decode b_P_level 22 = .ok (.invokevirtual 152, 3) := by decide +kernel
theorem d_P_level_25 : decode b_P_level 25 = .ok (.aload_n 0, 1) := by decide +kernel
theorem d_P_level_26 : decode b_P_level 26 = .ok (.getfield 40, 3) := by decide +kernel
theorem d_P_level_29 : decode b_P_level 29 = .ok (.getfield 156, 3) := by decide +kernel
theorem d_P_level_32 : decode b_P_level 32 = .ok (.iload_n 1, 1) := by decide +kernel
theorem d_P_level_33 : decode b_P_level 33 = .ok (.iaload, 1) := by decide +kernel
theorem d_P_level_34 : decode b_P_level 34 = .ok (.invokestatic 159, 3) := by decide +kernel
theorem d_P_level_37 : decode b_P_level 37 = .ok (.ireturn, 1) := by decide +kernel
theorem d_P_bound_0 : decode b_P_bound 0 = .ok (.aload_n 0, 1) := by decide +kernel
theorem d_P_bound_1 : decode b_P_bound 1 = .ok (.getfield 40, 3) := by decide +kernel
theorem d_P_bound_4 : decode b_P_bound 4 = .ok (.aload_n 0, 1) := by decide +kernel
theorem d_P_bound_5 : decode b_P_bound 5 = .ok (.getfield 53, 3) := by decide +kernel
theorem d_P_bound_8 : decode b_P_bound 8 = .ok (.aload_n 0, 1) := by decide +kernel
theorem d_P_bound_9 : decode b_P_bound 9 = .ok (.getfield 12, 3) := by decide +kernel
theorem d_P_bound_12 : decode b_P_bound 12 = .ok (.getfield 149, 3) := by decide +kernel
theorem d_P_bound_15 : decode b_P_bound 15 = .ok (.iload_n 1, 1) := by decide +kernel
theorem d_P_bound_16 : decode b_P_bound 16 = .ok (.iconst 0, 1) := by decide +kernel
theorem d_P_bound_17 : decode b_P_bound 17 = .ok (.invokevirtual 152, 3) := by decide +kernel
theorem d_P_bound_20 : decode b_P_bound 20 = .ok (.aload_n 0, 1) := by decide +kernel
theorem d_P_bound_21 : decode b_P_bound 21 = .ok (.getfield 40, 3) := by decide +kernel
theorem d_P_bound_24 : decode b_P_bound 24 = .ok (.aload_n 0, 1) := by decide +kernel
theorem d_P_bound_25 : decode b_P_bound 25 = .ok (.getfield 12, 3) := by decide +kernel
theorem d_P_bound_28 : decode b_P_bound 28 = .ok (.getfield 162, 3) := by decide +kernel
theorem d_P_bound_31 : decode b_P_bound 31 = .ok (.iload_n 1, 1) := by decide +kernel
theorem d_P_bound_32 : decode b_P_bound 32 = .ok (.invokevirtual 165, 3) := by decide +kernel
theorem d_P_bound_35 : decode b_P_bound 35 = .ok (.invokestatic 159, 3) := by decide +kernel
theorem d_P_bound_38 : decode b_P_bound 38 = .ok (.ireturn, 1) := by decide +kernel
theorem d_P_cuts_0 : decode b_P_cuts 0 = .ok (.aload_n 0, 1) := by decide +kernel
theorem d_P_cuts_1 : decode b_P_cuts 1 = .ok (.getfield 49, 3) := by decide +kernel
theorem d_P_cuts_4 : decode b_P_cuts 4 = .ok (.aload_n 0, 1) := by decide +kernel
theorem d_P_cuts_5 : decode b_P_cuts 5 = .ok (.getfield 53, 3) := by decide +kernel
theorem d_P_cuts_8 : decode b_P_cuts 8 = .ok (.invokevirtual 169, 3) := by decide +kernel
theorem d_P_cuts_11 : decode b_P_cuts 11 = .ok (.aload_n 0, 1) := by decide +kernel
theorem d_P_cuts_12 : decode b_P_cuts 12 = .ok (.getfield 49, 3) := by decide +kernel
theorem d_P_cuts_15 : decode b_P_cuts 15 = .ok (.getfield 172, 3) := by decide +kernel
theorem d_P_cuts_18 : decode b_P_cuts 18 = .ok (.ireturn, 1) := by decide +kernel
theorem d_P_cut_0 : decode b_P_cut 0 = .ok (.aload_n 0, 1) := by decide +kernel
theorem d_P_cut_1 : decode b_P_cut 1 = .ok (.getfield 49, 3) := by decide +kernel
theorem d_P_cut_4 : decode b_P_cut 4 = .ok (.aload_n 0, 1) := by decide +kernel
theorem d_P_cut_5 : decode b_P_cut 5 = .ok (.getfield 53, 3) := by decide +kernel
theorem d_P_cut_8 : decode b_P_cut 8 = .ok (.invokevirtual 169, 3) := by decide +kernel
theorem d_P_cut_11 : decode b_P_cut 11 = .ok (.iload_n 1, 1) := by decide +kernel
theorem d_P_cut_12 : decode b_P_cut 12 = .ok (.ifCond .lt 14, 3) := by decide +kernel
theorem d_P_cut_15 : decode b_P_cut 15 = .ok (.iload_n 1, 1) := by decide +kernel
theorem d_P_cut_16 : decode b_P_cut 16 = .ok (.aload_n 0, 1) := by decide +kernel
theorem d_P_cut_17 : decode b_P_cut 17 = .ok (.getfield 49, 3) := by decide +kernel
theorem d_P_cut_20 : decode b_P_cut 20 = .ok (.getfield 175, 3) := by decide +kernel
theorem d_P_cut_23 : decode b_P_cut 23 = .ok (.if_icmp .lt 7, 3) := by decide +kernel
theorem d_P_cut_26 : decode b_P_cut 26 = .ok (.iconst 0, 1) := by decide +kernel
theorem d_P_cut_27 : decode b_P_cut 27 = .ok (.goto 12, 3) := by decide +kernel
theorem d_P_cut_30 : decode b_P_cut 30 = .ok (.aload_n 0, 1) := by decide +kernel
theorem d_P_cut_31 : decode b_P_cut 31 = .ok (.getfield 49, 3) := by decide +kernel
theorem d_P_cut_34 : decode b_P_cut 34 = .ok (.getfield 178, 3) := by decide +kernel
theorem d_P_cut_37 : decode b_P_cut 37 = .ok (.iload_n 1, 1) := by decide +kernel
theorem d_P_cut_38 : decode b_P_cut 38 = .ok (.iaload, 1) := by decide +kernel
theorem d_P_cut_39 : decode b_P_cut 39 = .ok (.ireturn, 1) := by decide +kernel
theorem d_P_landmark_0 : decode b_P_landmark 0 = .ok (.aload_n 0, 1) := by decide +kernel
theorem d_P_landmark_1 : decode b_P_landmark 1 = .ok (.iload_n 1, 1) := by decide +kernel
theorem d_P_landmark_2 : decode b_P_landmark 2 = .ok (.invokevirtual 91, 3) := by decide +kernel
theorem d_P_landmark_5 : decode b_P_landmark 5 = .ok (.aload_n 0, 1) := by decide +kernel
theorem d_P_landmark_6 : decode b_P_landmark 6 = .ok (.getfield 53, 3) := by decide +kernel
theorem d_P_landmark_9 : decode b_P_landmark 9 = .ok (.iload_n 1, 1) := by decide +kernel
theorem d_P_landmark_10 : decode b_P_landmark 10 = .ok (.invokestatic 100, 3) := by decide +kernel
theorem d_P_landmark_13 : decode b_P_landmark 13 = .ok (.ifCond .eq 5, 3) := by decide +kernel
theorem d_P_landmark_16 : decode b_P_landmark 16 = .ok (.iconst 1, 1) := by decide +kernel
theorem d_P_landmark_17 : decode b_P_landmark 17 = .ok (.ireturn, 1) := by decide +kernel
theorem d_P_landmark_18 : decode b_P_landmark 18 = .ok (.aload_n 0, 1) := by decide +kernel
theorem d_P_landmark_19 : decode b_P_landmark 19 = .ok (.getfield 40, 3) := by decide +kernel
theorem d_P_landmark_22 : decode b_P_landmark 22 = .ok (.aload_n 0, 1) := by decide +kernel
theorem d_P_landmark_23 : decode b_P_landmark 23 = .ok (.getfield 53, 3) := by decide +kernel
theorem d_P_landmark_26 : decode b_P_landmark 26 = .ok (.aload_n 0, 1) := by decide +kernel
theorem d_P_landmark_27 : decode b_P_landmark 27 = .ok (.getfield 12, 3) := by decide +kernel
theorem d_P_landmark_30 : decode b_P_landmark 30 = .ok (.getfield 149, 3) := by decide +kernel
theorem d_P_landmark_33 : decode b_P_landmark 33 = .ok (.iconst 0, 1) := by decide +kernel
theorem d_P_landmark_34 : decode b_P_landmark 34 = .ok (.aload_n 0, 1) := by decide +kernel
theorem d_P_landmark_35 : decode b_P_landmark 35 = .ok (.getfield 12, 3) := by decide +kernel
theorem d_P_landmark_38 : decode b_P_landmark 38 = .ok (.iload_n 1, 1) := by decide +kernel
theorem d_P_landmark_39 : decode b_P_landmark 39 = .ok (.invokevirtual 181, 3) := by decide +kernel
theorem d_P_landmark_42 : decode b_P_landmark 42 = .ok (.invokevirtual 152, 3) := by decide +kernel
theorem d_P_landmark_45 : decode b_P_landmark 45 = .ok (.aload_n 0, 1) := by decide +kernel
theorem d_P_landmark_46 : decode b_P_landmark 46 = .ok (.getfield 40, 3) := by decide +kernel
theorem d_P_landmark_49 : decode b_P_landmark 49 = .ok (.aload_n 0, 1) := by decide +kernel
theorem d_P_landmark_50 : decode b_P_landmark 50 = .ok (.getfield 12, 3) := by decide +kernel
theorem d_P_landmark_53 : decode b_P_landmark 53 = .ok (.getfield 162, 3) := by decide +kernel
theorem d_P_landmark_56 : decode b_P_landmark 56 = .ok (.iconst 0, 1) := by decide +kernel
theorem d_P_landmark_57 : decode b_P_landmark 57 = .ok (.invokevirtual 165, 3) := by decide +kernel
theorem d_P_landmark_60 : decode b_P_landmark 60 = .ok (.ldc 184, 2) := by decide +kernel
theorem d_P_landmark_62 : decode b_P_landmark 62 = .ok (.if_icmp .ne 7, 3) := by decide +kernel
theorem d_P_landmark_65 : decode b_P_landmark 65 = .ok (.iconst 1, 1) := by decide +kernel
theorem d_P_landmark_66 : decode b_P_landmark 66 = .ok (.goto 4, 3) := by decide +kernel
theorem d_P_landmark_69 : decode b_P_landmark 69 = .ok (.iconst 0, 1) := by decide +kernel
theorem d_P_landmark_70 : decode b_P_landmark 70 = .ok (.ireturn, 1) := by decide +kernel
theorem d_P_draft_0 : decode b_P_draft 0 = .ok (.aload_n 0, 1) := by decide +kernel
theorem d_P_draft_1 : decode b_P_draft 1 = .ok (.iload_n 1, 1) := by decide +kernel
theorem d_P_draft_2 : decode b_P_draft 2 = .ok (.invokevirtual 88, 3) := by decide +kernel
theorem d_P_draft_5 : decode b_P_draft 5 = .ok (.aload_n 0, 1) := by decide +kernel
theorem d_P_draft_6 : decode b_P_draft 6 = .ok (.getfield 34, 3) := by decide +kernel
theorem d_P_draft_9 : decode b_P_draft 9 = .ok (.getfield 136, 3) := by decide +kernel
theorem d_P_draft_12 : decode b_P_draft 12 = .ok (.bipush 24, 2) := by decide +kernel
theorem d_P_draft_14 : decode b_P_draft 14 = .ok (.if_icmp .lt 13, 3) := by decide +kernel
theorem d_P_draft_17 : decode b_P_draft 17 = .ok (.new 60, 3) := by decide +kernel
theorem d_P_draft_20 : decode b_P_draft 20 = .ok (.dup, 1) := by decide +kernel
theorem d_P_draft_21 : decode b_P_draft 21 = .ok (.ldc 185, 2) := by decide +kernel
theorem d_P_draft_23 : decode b_P_draft 23 = .ok (.invokespecial 64, 3) := by decide +kernel
theorem d_P_draft_26 : decode b_P_draft 26 = .ok (.athrow, 1) := by decide +kernel
theorem d_P_draft_27 : decode b_P_draft 27 = .ok (.aload_n 0, 1) := by decide +kernel
theorem d_P_draft_28 : decode b_P_draft 28 = .ok (.getfield 34, 3) := by decide +kernel
theorem d_P_draft_31 : decode b_P_draft 31 = .ok (.iload_n 1, 1) := by decide +kernel
theorem d_P_draft_32 : decode b_P_draft 32 = .ok (.invokevirtual 187, 3) := by decide +kernel
theorem d_P_draft_35 : decode b_P_draft 35 = .ok (.aload_n 0, 1) := by decide +kernel
theorem d_P_draft_36 : decode b_P_draft 36 = .ok (.getfield 34, 3) := by decide +kernel
theorem d_P_draft_39 : decode b_P_draft 39 = .ok (.getfield 136, 3) := by decide +kernel
theorem d_P_draft_42 : decode b_P_draft 42 = .ok (.ireturn, 1) := by decide +kernel
theorem d_P_wipe_0 : decode b_P_wipe 0 = .ok (.aload_n 0, 1) := by decide +kernel
theorem d_P_wipe_1 : decode b_P_wipe 1 = .ok (.getfield 34, 3) := by decide +kernel
theorem d_P_wipe_4 : decode b_P_wipe 4 = .ok (.invokevirtual 125, 3) := by decide +kernel
theorem d_P_wipe_7 : decode b_P_wipe 7 = .ok (.return_, 1) := by decide +kernel
theorem d_P_check_0 : decode b_P_check 0 = .ok (.aload_n 0, 1) := by decide +kernel
theorem d_P_check_1 : decode b_P_check 1 = .ok (.getfield 53, 3) := by decide +kernel
theorem d_P_check_4 : decode b_P_check 4 = .ok (.istore_n 1, 1) := by decide +kernel
theorem d_P_check_5 : decode b_P_check 5 = .ok (.iconst 0, 1) := by decide +kernel
theorem d_P_check_6 : decode b_P_check 6 = .ok (.istore_n 2, 1) := by decide +kernel
theorem d_P_check_7 : decode b_P_check 7 = .ok (.iload_n 2, 1) := by decide +kernel
theorem d_P_check_8 : decode b_P_check 8 = .ok (.aload_n 0, 1) := by decide +kernel
theorem d_P_check_9 : decode b_P_check 9 = .ok (.getfield 34, 3) := by decide +kernel
theorem d_P_check_12 : decode b_P_check 12 = .ok (.getfield 136, 3) := by decide +kernel
theorem d_P_check_15 : decode b_P_check 15 = .ok (.if_icmp .ge 43, 3) := by decide +kernel
theorem d_P_check_18 : decode b_P_check 18 = .ok (.aload_n 0, 1) := by decide +kernel
theorem d_P_check_19 : decode b_P_check 19 = .ok (.getfield 34, 3) := by decide +kernel
theorem d_P_check_22 : decode b_P_check 22 = .ok (.getfield 139, 3) := by decide +kernel
theorem d_P_check_25 : decode b_P_check 25 = .ok (.iload_n 2, 1) := by decide +kernel
theorem d_P_check_26 : decode b_P_check 26 = .ok (.iaload, 1) := by decide +kernel
theorem d_P_check_27 : decode b_P_check 27 = .ok (.istore_n 3, 1) := by decide +kernel
theorem d_P_check_28 : decode b_P_check 28 = .ok (.aload_n 0, 1) := by decide +kernel
theorem d_P_check_29 : decode b_P_check 29 = .ok (.getfield 12, 3) := by decide +kernel
theorem d_P_check_32 : decode b_P_check 32 = .ok (.iload_n 3, 1) := by decide +kernel
theorem d_P_check_33 : decode b_P_check 33 = .ok (.iload_n 1, 1) := by decide +kernel
theorem d_P_check_34 : decode b_P_check 34 = .ok (.invokevirtual 109, 3) := by decide +kernel
theorem d_P_check_37 : decode b_P_check 37 = .ok (.ifCond .ne 5, 3) := by decide +kernel
theorem d_P_check_40 : decode b_P_check 40 = .ok (.iload_n 2, 1) := by decide +kernel
theorem d_P_check_41 : decode b_P_check 41 = .ok (.ireturn, 1) := by decide +kernel
theorem d_P_check_42 : decode b_P_check 42 = .ok (.aload_n 0, 1) := by decide +kernel
theorem d_P_check_43 : decode b_P_check 43 = .ok (.getfield 12, 3) := by decide +kernel
theorem d_P_check_46 : decode b_P_check 46 = .ok (.iload_n 3, 1) := by decide +kernel
theorem d_P_check_47 : decode b_P_check 47 = .ok (.iload_n 1, 1) := by decide +kernel
theorem d_P_check_48 : decode b_P_check 48 = .ok (.invokevirtual 114, 3) := by decide +kernel
theorem d_P_check_51 : decode b_P_check 51 = .ok (.istore_n 1, 1) := by decide +kernel
theorem d_P_check_52 : decode b_P_check 52 = .ok (.iinc 2 1, 3) := by decide +kernel
theorem d_P_check_55 : decode b_P_check 55 = .ok (.goto (-48), 3) := by decide +kernel
theorem d_P_check_58 : decode b_P_check 58 = .ok (.aload_n 0, 1) := by decide +kernel
theorem d_P_check_59 : decode b_P_check 59 = .ok (.getfield 12, 3) := by decide +kernel
theorem d_P_check_62 : decode b_P_check 62 = .ok (.iload_n 1, 1) := by decide +kernel
theorem d_P_check_63 : decode b_P_check 63 = .ok (.invokevirtual 118, 3) := by decide +kernel
theorem d_P_check_66 : decode b_P_check 66 = .ok (.ifCond .eq 7, 3) := by decide +kernel
theorem d_P_check_69 : decode b_P_check 69 = .ok (.iconst (-1), 1) := by decide +kernel
theorem d_P_check_70 : decode b_P_check 70 = .ok (.goto 10, 3) := by decide +kernel
theorem d_P_check_73 : decode b_P_check 73 = .ok (.aload_n 0, 1) := by decide +kernel
theorem d_P_check_74 : decode b_P_check 74 = .ok (.getfield 34, 3) := by decide +kernel
theorem d_P_check_77 : decode b_P_check 77 = .ok (.getfield 136, 3) := by decide +kernel
theorem d_P_check_80 : decode b_P_check 80 = .ok (.ireturn, 1) := by decide +kernel
theorem d_P_cost_0 : decode b_P_cost 0 = .ok (.iconst 0, 1) := by decide +kernel
theorem d_P_cost_1 : decode b_P_cost 1 = .ok (.istore_n 1, 1) := by decide +kernel
theorem d_P_cost_2 : decode b_P_cost 2 = .ok (.iconst 0, 1) := by decide +kernel
theorem d_P_cost_3 : decode b_P_cost 3 = .ok (.istore_n 2, 1) := by decide +kernel
theorem d_P_cost_4 : decode b_P_cost 4 = .ok (.iload_n 2, 1) := by decide +kernel
theorem d_P_cost_5 : decode b_P_cost 5 = .ok (.aload_n 0, 1) := by decide +kernel
theorem d_P_cost_6 : decode b_P_cost 6 = .ok (.getfield 34, 3) := by decide +kernel
theorem d_P_cost_9 : decode b_P_cost 9 = .ok (.getfield 136, 3) := by decide +kernel
theorem d_P_cost_12 : decode b_P_cost 12 = .ok (.if_icmp .ge 29, 3) := by decide +kernel
theorem d_P_cost_15 : decode b_P_cost 15 = .ok (.iload_n 1, 1) := by decide +kernel
theorem d_P_cost_16 : decode b_P_cost 16 = .ok (.aload_n 0, 1) := by decide +kernel
theorem d_P_cost_17 : decode b_P_cost 17 = .ok (.getfield 12, 3) := by decide +kernel
theorem d_P_cost_20 : decode b_P_cost 20 = .ok (.getfield 149, 3) := by decide +kernel
theorem d_P_cost_23 : decode b_P_cost 23 = .ok (.aload_n 0, 1) := by decide +kernel
theorem d_P_cost_24 : decode b_P_cost 24 = .ok (.getfield 34, 3) := by decide +kernel
theorem d_P_cost_27 : decode b_P_cost 27 = .ok (.getfield 139, 3) := by decide +kernel
theorem d_P_cost_30 : decode b_P_cost 30 = .ok (.iload_n 2, 1) := by decide +kernel
theorem d_P_cost_31 : decode b_P_cost 31 = .ok (.iaload, 1) := by decide +kernel
theorem d_P_cost_32 : decode b_P_cost 32 = .ok (.iaload, 1) := by decide +kernel
theorem d_P_cost_33 : decode b_P_cost 33 = .ok (.iadd, 1) := by decide +kernel
theorem d_P_cost_34 : decode b_P_cost 34 = .ok (.istore_n 1, 1) := by decide +kernel
theorem d_P_cost_35 : decode b_P_cost 35 = .ok (.iinc 2 1, 3) := by decide +kernel
theorem d_P_cost_38 : decode b_P_cost 38 = .ok (.goto (-34), 3) := by decide +kernel
theorem d_P_cost_41 : decode b_P_cost 41 = .ok (.iload_n 1, 1) := by decide +kernel
theorem d_P_cost_42 : decode b_P_cost 42 = .ok (.ireturn, 1) := by decide +kernel
theorem d_P_startAnew_0 : decode b_P_startAnew 0 = .ok (.aload_n 0, 1) := by decide +kernel
theorem d_P_startAnew_1 : decode b_P_startAnew 1 = .ok (.getfield 34, 3) := by decide +kernel
theorem d_P_startAnew_4 : decode b_P_startAnew 4 = .ok (.invokevirtual 125, 3) := by decide +kernel
theorem d_P_startAnew_7 : decode b_P_startAnew 7 = .ok (.aload_n 0, 1) := by decide +kernel
theorem d_P_startAnew_8 : decode b_P_startAnew 8 = .ok (.aload_n 0, 1) := by decide +kernel
theorem d_P_startAnew_9 : decode b_P_startAnew 9 = .ok (.getfield 12, 3) := by decide +kernel
theorem d_P_startAnew_12 : decode b_P_startAnew 12 = .ok (.getfield 106, 3) := by decide +kernel
theorem d_P_startAnew_15 : decode b_P_startAnew 15 = .ok (.putfield 53, 3) := by decide +kernel
theorem d_P_startAnew_18 : decode b_P_startAnew 18 = .ok (.return_, 1) := by decide +kernel
theorem d_P_refuseUnknownFact_0 : decode b_P_refuseUnknownFact 0 = .ok (.iload_n 1, 1) := by decide +kernel
theorem d_P_refuseUnknownFact_1 : decode b_P_refuseUnknownFact 1 = .ok (.ifCond .lt 14, 3) := by decide +kernel
theorem d_P_refuseUnknownFact_4 : decode b_P_refuseUnknownFact 4 = .ok (.iload_n 1, 1) := by decide +kernel
theorem d_P_refuseUnknownFact_5 : decode b_P_refuseUnknownFact 5 = .ok (.aload_n 0, 1) := by decide +kernel
theorem d_P_refuseUnknownFact_6 : decode b_P_refuseUnknownFact 6 = .ok (.getfield 12, 3) := by decide +kernel
theorem d_P_refuseUnknownFact_9 : decode b_P_refuseUnknownFact 9 = .ok (.getfield 57, 3) := by decide +kernel
theorem d_P_refuseUnknownFact_12 : decode b_P_refuseUnknownFact 12 = .ok (.if_icmp .lt 13, 3) := by decide +kernel
theorem d_P_refuseUnknownFact_15 : decode b_P_refuseUnknownFact 15 = .ok (.new 190, 3) := by decide +kernel
theorem d_P_refuseUnknownFact_18 : decode b_P_refuseUnknownFact 18 = .ok (.dup, 1) := by decide +kernel
theorem d_P_refuseUnknownFact_19 : decode b_P_refuseUnknownFact 19 = .ok (.ldc 192, 2) := by decide +kernel
theorem d_P_refuseUnknownFact_21 : decode b_P_refuseUnknownFact 21 = .ok (.invokespecial 194, 3) := by decide +kernel
theorem d_P_refuseUnknownFact_24 : decode b_P_refuseUnknownFact 24 = .ok (.athrow, 1) := by decide +kernel
theorem d_P_refuseUnknownFact_25 : decode b_P_refuseUnknownFact 25 = .ok (.return_, 1) := by decide +kernel
theorem d_P_refuseUnknownAction_0 : decode b_P_refuseUnknownAction 0 = .ok (.iload_n 1, 1) := by decide +kernel
theorem d_P_refuseUnknownAction_1 : decode b_P_refuseUnknownAction 1 = .ok (.ifCond .lt 14, 3) := by decide +kernel
theorem d_P_refuseUnknownAction_4 : decode b_P_refuseUnknownAction 4 = .ok (.iload_n 1, 1) := by decide +kernel
theorem d_P_refuseUnknownAction_5 : decode b_P_refuseUnknownAction 5 = .ok (.aload_n 0, 1) := by decide +kernel
theorem d_P_refuseUnknownAction_6 : decode b_P_refuseUnknownAction 6 = .ok (.getfield 12, 3) := by decide +kernel
theorem d_P_refuseUnknownAction_9 : decode b_P_refuseUnknownAction 9 = .ok (.getfield 79, 3) := by decide +kernel
theorem d_P_refuseUnknownAction_12 : decode b_P_refuseUnknownAction 12 = .ok (.if_icmp .lt 13, 3) := by decide +kernel
theorem d_P_refuseUnknownAction_15 : decode b_P_refuseUnknownAction 15 = .ok (.new 190, 3) := by decide +kernel
theorem d_P_refuseUnknownAction_18 : decode b_P_refuseUnknownAction 18 = .ok (.dup, 1) := by decide +kernel
theorem d_P_refuseUnknownAction_19 : decode b_P_refuseUnknownAction 19 = .ok (.ldc 195, 2) := by decide +kernel
theorem d_P_refuseUnknownAction_21 : decode b_P_refuseUnknownAction 21 = .ok (.invokespecial 194, 3) := by decide +kernel
theorem d_P_refuseUnknownAction_24 : decode b_P_refuseUnknownAction 24 = .ok (.athrow, 1) := by decide +kernel
theorem d_P_refuseUnknownAction_25 : decode b_P_refuseUnknownAction 25 = .ok (.return_, 1) := by decide +kernel
theorem d_P_orNone_0 : decode b_P_orNone 0 = .ok (.iload_n 0, 1) := by decide +kernel
theorem d_P_orNone_1 : decode b_P_orNone 1 = .ok (.ldc 184, 2) := by decide +kernel
theorem d_P_orNone_3 : decode b_P_orNone 3 = .ok (.if_icmp .lt 7, 3) := by decide +kernel
theorem d_P_orNone_6 : decode b_P_orNone 6 = .ok (.iconst (-1), 1) := by decide +kernel
theorem d_P_orNone_7 : decode b_P_orNone 7 = .ok (.goto 4, 3) := by decide +kernel
theorem d_P_orNone_10 : decode b_P_orNone 10 = .ok (.iload_n 0, 1) := by decide +kernel
theorem d_P_orNone_11 : decode b_P_orNone 11 = .ok (.ireturn, 1) := by decide +kernel
theorem d_P_has_0 : decode b_P_has 0 = .ok (.iload_n 0, 1) := by decide +kernel
theorem d_P_has_1 : decode b_P_has 1 = .ok (.iload_n 1, 1) := by decide +kernel
theorem d_P_has_2 : decode b_P_has 2 = .ok (.ishr, 1) := by decide +kernel
theorem d_P_has_3 : decode b_P_has 3 = .ok (.iconst 1, 1) := by decide +kernel
theorem d_P_has_4 : decode b_P_has 4 = .ok (.iand, 1) := by decide +kernel
theorem d_P_has_5 : decode b_P_has 5 = .ok (.ifCond .eq 7, 3) := by decide +kernel
theorem d_P_has_8 : decode b_P_has 8 = .ok (.iconst 1, 1) := by decide +kernel
theorem d_P_has_9 : decode b_P_has 9 = .ok (.goto 4, 3) := by decide +kernel
theorem d_P_has_12 : decode b_P_has 12 = .ok (.iconst 0, 1) := by decide +kernel
theorem d_P_has_13 : decode b_P_has 13 = .ok (.ireturn, 1) := by decide +kernel
theorem d_P_hasAll_0 : decode b_P_hasAll 0 = .ok (.iload_n 0, 1) := by decide +kernel
theorem d_P_hasAll_1 : decode b_P_hasAll 1 = .ok (.iload_n 1, 1) := by decide +kernel
theorem d_P_hasAll_2 : decode b_P_hasAll 2 = .ok (.iand, 1) := by decide +kernel
theorem d_P_hasAll_3 : decode b_P_hasAll 3 = .ok (.iload_n 1, 1) := by decide +kernel
theorem d_P_hasAll_4 : decode b_P_hasAll 4 = .ok (.if_icmp .ne 7, 3) := by decide +kernel
theorem d_P_hasAll_7 : decode b_P_hasAll 7 = .ok (.iconst 1, 1) := by decide +kernel
theorem d_P_hasAll_8 : decode b_P_hasAll 8 = .ok (.goto 4, 3) := by decide +kernel
theorem d_P_hasAll_11 : decode b_P_hasAll 11 = .ok (.iconst 0, 1) := by decide +kernel
theorem d_P_hasAll_12 : decode b_P_hasAll 12 = .ok (.ireturn, 1) := by decide +kernel
end
section
theorem d_S_init_0 : decode b_S_init 0 = .ok (.aload_n 0, 1) := by decide +kernel
theorem d_S_init_1 : decode b_S_init 1 = .ok (.invokespecial 3, 3) := by decide +kernel
theorem d_S_init_4 : decode b_S_init 4 = .ok (.aload_n 0, 1) := by decide +kernel
theorem d_S_init_5 : decode b_S_init 5 = .ok (.sipush 1024, 3) := by decide +kernel
theorem d_S_init_8 : decode b_S_init 8 = .ok (.newarray .int, 2) := by decide +kernel
theorem d_S_init_10 : decode b_S_init 10 = .ok (.putfield 9, 3) := by decide +kernel
theorem d_S_init_13 : decode b_S_init 13 = .ok (.aload_n 0, 1) := by decide +kernel
theorem d_S_init_14 : decode b_S_init 14 = .ok (.sipush 1024, 3) := by decide +kernel
theorem d_S_init_17 : decode b_S_init 17 = .ok (.newarray .int, 2) := by decide +kernel
theorem d_S_init_19 : decode b_S_init 19 = .ok (.putfield 15, 3) := by decide +kernel
theorem d_S_init_22 : decode b_S_init 22 = .ok (.aload_n 0, 1) := by decide +kernel
theorem d_S_init_23 : decode b_S_init 23 = .ok (.sipush 1024, 3) := by decide +kernel
theorem d_S_init_26 : decode b_S_init 26 = .ok (.newarray .int, 2) := by decide +kernel
theorem d_S_init_28 : decode b_S_init 28 = .ok (.putfield 18, 3) := by decide +kernel
theorem d_S_init_31 : decode b_S_init 31 = .ok (.aload_n 0, 1) := by decide +kernel
theorem d_S_init_32 : decode b_S_init 32 = .ok (.bipush 10, 2) := by decide +kernel
theorem d_S_init_34 : decode b_S_init 34 = .ok (.newarray .int, 2) := by decide +kernel
theorem d_S_init_36 : decode b_S_init 36 = .ok (.putfield 21, 3) := by decide +kernel
theorem d_S_init_39 : decode b_S_init 39 = .ok (.aload_n 0, 1) := by decide +kernel
theorem d_S_init_40 : decode b_S_init 40 = .ok (.aload_n 1, 1) := by decide +kernel
theorem d_S_init_41 : decode b_S_init 41 = .ok (.putfield 24, 3) := by decide +kernel
theorem d_S_init_44 : decode b_S_init 44 = .ok (.aload_n 0, 1) := by decide +kernel
theorem d_S_init_45 : decode b_S_init 45 = .ok (.getfield 15, 3) := by decide +kernel
theorem d_S_init_48 : decode b_S_init 48 = .ok (.iconst (-1), 1) := by decide +kernel
theorem d_S_init_49 : decode b_S_init 49 = .ok (.invokestatic 28, 3) := by decide +kernel
theorem d_S_init_52 : decode b_S_init 52 = .ok (.return_, 1) := by decide +kernel
theorem d_S_explore_0 : decode b_S_explore 0 = .ok (.aload_n 0, 1) := by decide +kernel
theorem d_S_explore_1 : decode b_S_explore 1 = .ok (.invokevirtual 34, 3) := by decide +kernel
theorem d_S_explore_4 : decode b_S_explore 4 = .ok (.aload_n 0, 1) := by decide +kernel
theorem d_S_explore_5 : decode b_S_explore 5 = .ok (.getfield 21, 3) := by decide +kernel
theorem d_S_explore_8 : decode b_S_explore 8 = .ok (.iconst 0, 1) := by decide +kernel
theorem d_S_explore_9 : decode b_S_explore 9 = .ok (.iconst 0, 1) := by decide +kernel
theorem d_S_explore_10 : decode b_S_explore 10 = .ok (.iastore, 1) := by decide +kernel
theorem d_S_explore_11 : decode b_S_explore 11 = .ok (.aload_n 0, 1) := by decide +kernel
theorem d_S_explore_12 : decode b_S_explore 12 = .ok (.iload_n 1, 1) := by decide +kernel
theorem d_S_explore_13 : decode b_S_explore 13 = .ok (.iconst 0, 1) := by decide +kernel
theorem d_S_explore_14 : decode b_S_explore 14 = .ok (.invokevirtual 37, 3) := by decide +kernel
theorem d_S_explore_17 : decode b_S_explore 17 = .ok (.iconst 1, 1) := by decide +kernel
theorem d_S_explore_18 : decode b_S_explore 18 = .ok (.istore_n 2, 1) := by decide +kernel
theorem d_S_explore_19 : decode b_S_explore 19 = .ok (.iload_n 2, 1) := by decide +kernel
theorem d_S_explore_20 : decode b_S_explore 20 = .ok (.sipush 9207, 3) := by decide +kernel
theorem d_S_explore_23 : decode b_S_explore 23 = .ok (.if_icmp .gt 78, 3) := by decide +kernel
theorem d_S_explore_26 : decode b_S_explore 26 = .ok (.iload_n 2, 1) := by decide +kernel
theorem d_S_explore_27 : decode b_S_explore 27 = .ok (.aload_n 0, 1) := by decide +kernel
theorem d_S_explore_28 : decode b_S_explore 28 = .ok (.invokevirtual 41, 3) := by decide +kernel
theorem d_S_explore_31 : decode b_S_explore 31 = .ok (.bipush 9, 2) := by decide +kernel
theorem d_S_explore_33 : decode b_S_explore 33 = .ok (.iadd, 1) := by decide +kernel
theorem d_S_explore_34 : decode b_S_explore 34 = .ok (.if_icmp .gt 67, 3) := by decide +kernel
theorem d_S_explore_37 : decode b_S_explore 37 = .ok (.aload_n 0, 1) := by decide +kernel
theorem d_S_explore_38 : decode b_S_explore 38 = .ok (.getfield 21, 3) := by decide +kernel
theorem d_S_explore_41 : decode b_S_explore 41 = .ok (.iload_n 2, 1) := by decide +kernel
theorem d_S_explore_42 : decode b_S_explore 42 = .ok (.bipush 10, 2) := by decide +kernel
theorem d_S_explore_44 : decode b_S_explore 44 = .ok (.irem, 1) := by decide +kernel
theorem d_S_explore_45 : decode b_S_explore 45 = .ok (.aload_n 0, 1) := by decide +kernel
theorem d_S_explore_46 : decode b_S_explore 46 = .ok (.getfield 45, 3) := by decide +kernel
theorem d_S_explore_49 : decode b_S_explore 49 = .ok (.iastore, 1) := by decide +kernel
theorem d_S_explore_50 : decode b_S_explore 50 = .ok (.iconst 0, 1) := by decide +kernel
theorem d_S_explore_51 : decode b_S_explore 51 = .ok (.istore_n 3, 1) := by decide +kernel
theorem d_S_explore_52 : decode b_S_explore 52 = .ok (.iload_n 3, 1) := by decide +kernel
theorem d_S_explore_53 : decode b_S_explore 53 = .ok (.aload_n 0, 1) := by decide +kernel
theorem d_S_explore_54 : decode b_S_explore 54 = .ok (.getfield 24, 3) := by decide +kernel
theorem d_S_explore_57 : decode b_S_explore 57 = .ok (.getfield 49, 3) := by decide +kernel
theorem d_S_explore_60 : decode b_S_explore 60 = .ok (.if_icmp .ge 35, 3) := by decide +kernel
theorem d_S_explore_63 : decode b_S_explore 63 = .ok (.iload_n 2, 1) := by decide +kernel
theorem d_S_explore_64 : decode b_S_explore 64 = .ok (.aload_n 0, 1) := by decide +kernel
theorem d_S_explore_65 : decode b_S_explore 65 = .ok (.getfield 24, 3) := by decide +kernel
theorem d_S_explore_68 : decode b_S_explore 68 = .ok (.getfield 54, 3) := by decide +kernel
theorem d_S_explore_71 : decode b_S_explore 71 = .ok (.iload_n 3, 1) := by decide +kernel
theorem d_S_explore_72 : decode b_S_explore 72 = .ok (.iaload, 1) := by decide +kernel
theorem d_S_explore_73 : decode b_S_explore 73 = .ok (.isub, 1) := by decide +kernel
theorem d_S_explore_74 : decode b_S_explore 74 = .ok (.istore 4, 2) := by decide +kernel
theorem d_S_explore_76 : decode b_S_explore 76 = .ok (.iload 4, 2) := by decide +kernel
theorem d_S_explore_78 : decode b_S_explore 78 = .ok (.ifCond .lt 11, 3) := by decide +kernel
theorem d_S_explore_81 : decode b_S_explore 81 = .ok (.aload_n 0, 1) := by decide +kernel
theorem d_S_explore_82 : decode b_S_explore 82 = .ok (.iload_n 3, 1) := by decide +kernel
theorem d_S_explore_83 : decode b_S_explore 83 = .ok (.iload 4, 2) := by decide +kernel
theorem d_S_explore_85 : decode b_S_explore 85 = .ok (.iload_n 2, 1) := by decide +kernel
theorem d_S_explore_86 : decode b_S_explore 86 = .ok (.invokevirtual 57, 3) := by decide +kernel
theorem d_S_explore_89 : decode b_S_explore 89 = .ok (.iinc 3 1, 3) := by decide +kernel
theorem d_S_explore_92 : decode b_S_explore 92 = .ok (.goto (-40), 3) := by decide +kernel
theorem d_S_explore_95 : decode b_S_explore 95 = .ok (.iinc 2 1, 3) := by decide +kernel
theorem d_S_explore_98 : decode b_S_explore 98 = .ok (.goto (-79), 3) := by decide +kernel
theorem d_S_explore_101 : decode b_S_explore 101 = .ok (.return_, 1) := by decide +kernel
theorem d_S_cameTo_0 : decode b_S_cameTo 0 = .ok (.iconst 0, 1) := by decide +kernel
theorem d_S_cameTo_1 : decode b_S_cameTo 1 = .ok (.istore_n 2, 1) := by decide +kernel
theorem d_S_cameTo_2 : decode b_S_cameTo 2 = .ok (.iload_n 2, 1) := by decide +kernel
theorem d_S_cameTo_3 : decode b_S_cameTo 3 = .ok (.aload_n 0, 1) := by decide +kernel
theorem d_S_cameTo_4 : decode b_S_cameTo 4 = .ok (.getfield 45, 3) := by decide +kernel
theorem d_S_cameTo_7 : decode b_S_cameTo 7 = .ok (.if_icmp .ge 24, 3) := by decide +kernel
theorem d_S_cameTo_10 : decode b_S_cameTo 10 = .ok (.aload_n 0, 1) := by decide +kernel
theorem d_S_cameTo_11 : decode b_S_cameTo 11 = .ok (.getfield 9, 3) := by decide +kernel
theorem d_S_cameTo_14 : decode b_S_cameTo 14 = .ok (.iload_n 2, 1) := by decide +kernel
theorem d_S_cameTo_15 : decode b_S_cameTo 15 = .ok (.iaload, 1) := by decide +kernel
theorem d_S_cameTo_16 : decode b_S_cameTo 16 = .ok (.iload_n 1, 1) := by decide +kernel
theorem d_S_cameTo_17 : decode b_S_cameTo 17 = .ok (.invokestatic 61, 3) := by decide +kernel
theorem d_S_cameTo_20 : decode b_S_cameTo 20 = .ok (.ifCond .eq 5, 3) := by decide +kernel
theorem d_S_cameTo_23 : decode b_S_cameTo 23 = .ok (.iconst 1, 1) := by decide +kernel
theorem d_S_cameTo_24 : decode b_S_cameTo 24 = .ok (.ireturn, 1) := by decide +kernel
theorem d_S_cameTo_25 : decode b_S_cameTo 25 = .ok (.iinc 2 1, 3) := by decide +kernel
theorem d_S_cameTo_28 : decode b_S_cameTo 28 = .ok (.goto (-26), 3) := by decide +kernel
theorem d_S_cameTo_31 : decode b_S_cameTo 31 = .ok (.iconst 0, 1) := by decide +kernel
theorem d_S_cameTo_32 : decode b_S_cameTo 32 = .ok (.ireturn, 1) := by decide +kernel
theorem d_S_leastToMet_0 : decode b_S_leastToMet 0 = .ok (.iconst 0, 1) := by decide +kernel
theorem d_S_leastToMet_1 : decode b_S_leastToMet 1 = .ok (.istore_n 1, 1) := by decide +kernel
theorem d_S_leastToMet_2 : decode b_S_leastToMet 2 = .ok (.iload_n 1, 1) := by decide +kernel
theorem d_S_leastToMet_3 : decode b_S_leastToMet 3 = .ok (.aload_n 0, 1) := by decide +kernel
theorem d_S_leastToMet_4 : decode b_S_leastToMet 4 = .ok (.getfield 45, 3) := by decide +kernel
theorem d_S_leastToMet_7 : decode b_S_leastToMet 7 = .ok (.if_icmp .ge 37, 3) := by decide +kernel
theorem d_S_leastToMet_10 : decode b_S_leastToMet 10 = .ok (.aload_n 0, 1) := by decide +kernel
theorem d_S_leastToMet_11 : decode b_S_leastToMet 11 = .ok (.getfield 24, 3) := by decide +kernel
theorem d_S_leastToMet_14 : decode b_S_leastToMet 14 = .ok (.aload_n 0, 1) := by decide +kernel
theorem d_S_leastToMet_15 : decode b_S_leastToMet 15 = .ok (.getfield 9, 3) := by decide +kernel
theorem d_S_leastToMet_18 : decode b_S_leastToMet 18 = .ok (.iload_n 1, 1) := by decide +kernel
theorem d_S_leastToMet_19 : decode b_S_leastToMet 19 = .ok (.iaload, 1) := by decide +kernel
theorem d_S_leastToMet_20 : decode b_S_leastToMet 20 = .ok (.invokevirtual 65, 3) := by decide +kernel
theorem d_S_leastToMet_23 : decode b_S_leastToMet 23 = .ok (.ifCond .eq 15, 3) := by decide +kernel
theorem d_S_leastToMet_26 : decode b_S_leastToMet 26 = .ok (.aload_n 0, 1) := by decide +kernel
theorem d_S_leastToMet_27 : decode b_S_leastToMet 27 = .ok (.getfield 15, 3) := by decide +kernel
theorem d_S_leastToMet_30 : decode b_S_leastToMet 30 = .ok (.aload_n 0, 1) := by decide +kernel
theorem d_S_leastToMet_31 : decode b_S_leastToMet 31 = .ok (.getfield 9, 3) := by decide +kernel
theorem d_S_leastToMet_34 : decode b_S_leastToMet 34 = .ok (.iload_n 1, 1) := by decide +kernel
theorem d_S_leastToMet_35 : decode b_S_leastToMet 35 = .ok (.iaload, 1) := by decide +kernel
theorem d_S_leastToMet_36 : decode b_S_leastToMet 36 = .ok (.iaload, 1) := by decide +kernel
theorem d_S_leastToMet_37 : decode b_S_leastToMet 37 = .ok (.ireturn, 1) := by decide +kernel
theorem d_S_leastToMet_38 : decode b_S_leastToMet 38 = .ok (.iinc 1 1, 3) := by decide +kernel
theorem d_S_leastToMet_41 : decode b_S_leastToMet 41 = .ok (.goto (-39), 3) := by decide +kernel
theorem d_S_leastToMet_44 : decode b_S_leastToMet 44 = .ok (.iconst (-1), 1) := by decide +kernel
theorem d_S_leastToMet_45 : decode b_S_leastToMet 45 = .ok (.ireturn, 1) := by decide +kernel
theorem d_S_writeBest_0 : decode b_S_writeBest 0 = .ok (.aload_n 0, 1) := by decide +kernel
theorem d_S_writeBest_1 : decode b_S_writeBest 1 = .ok (.getfield 45, 3) := by decide +kernel
theorem d_S_writeBest_4 : decode b_S_writeBest 4 = .ok (.iconst 1, 1) := by decide +kernel
theorem d_S_writeBest_5 : decode b_S_writeBest 5 = .ok (.isub, 1) := by decide +kernel
theorem d_S_writeBest_6 : decode b_S_writeBest 6 = .ok (.istore 4, 2) := by decide +kernel
theorem d_S_writeBest_8 : decode b_S_writeBest 8 = .ok (.iload 4, 2) := by decide +kernel
theorem d_S_writeBest_10 : decode b_S_writeBest 10 = .ok (.ifCond .lt 71, 3) := by decide +kernel
theorem d_S_writeBest_13 : decode b_S_writeBest 13 = .ok (.aload_n 0, 1) := by decide +kernel
theorem d_S_writeBest_14 : decode b_S_writeBest 14 = .ok (.getfield 9, 3) := by decide +kernel
theorem d_S_writeBest_17 : decode b_S_writeBest 17 = .ok (.iload 4, 2) := by decide +kernel
theorem d_S_writeBest_19 : decode b_S_writeBest 19 = .ok (.iaload, 1) := by decide +kernel
theorem d_S_writeBest_20 : decode b_S_writeBest 20 = .ok (.istore 5, 2) := by decide +kernel
theorem d_S_writeBest_22 : decode b_S_writeBest 22 = .ok (.aload_n 0, 1) := by decide +kernel
theorem d_S_writeBest_23 : decode b_S_writeBest 23 = .ok (.getfield 15, 3) := by decide +kernel
theorem d_S_writeBest_26 : decode b_S_writeBest 26 = .ok (.iload 5, 2) := by decide +kernel
theorem d_S_writeBest_28 : decode b_S_writeBest 28 = .ok (.iaload, 1) := by decide +kernel
theorem d_S_writeBest_29 : decode b_S_writeBest 29 = .ok (.iload_n 2, 1) := by decide +kernel
theorem d_S_writeBest_30 : decode b_S_writeBest 30 = .ok (.if_icmp .ne 19, 3) := by decide +kernel
theorem d_S_writeBest_33 : decode b_S_writeBest 33 = .ok (.aload_n 0, 1) := by decide +kernel
theorem d_S_writeBest_34 : decode b_S_writeBest 34 = .ok (.getfield 24, 3) := by decide +kernel
theorem d_S_writeBest_37 : decode b_S_writeBest 37 = .ok (.iload 5, 2) := by decide +kernel
theorem d_S_writeBest_39 : decode b_S_writeBest 39 = .ok (.invokevirtual 65, 3) := by decide +kernel
theorem d_S_writeBest_42 : decode b_S_writeBest 42 = .ok (.ifCond .eq 7, 3) := by decide +kernel
theorem d_S_writeBest_45 : decode b_S_writeBest 45 = .ok (.iconst 1, 1) := by decide +kernel
theorem d_S_writeBest_46 : decode b_S_writeBest 46 = .ok (.goto 4, 3) := by decide +kernel
theorem d_S_writeBest_49 : decode b_S_writeBest 49 = .ok (.iconst 0, 1) := by decide +kernel
theorem d_S_writeBest_50 : decode b_S_writeBest 50 = .ok (.istore 6, 2) := by decide +kernel
theorem d_S_writeBest_52 : decode b_S_writeBest 52 = .ok (.aload_n 0, 1) := by decide +kernel
theorem d_S_writeBest_53 : decode b_S_writeBest 53 = .ok (.getfield 18, 3) := by decide +kernel
theorem d_S_writeBest_56 : decode b_S_writeBest 56 = .ok (.iload 5, 2) := by decide +kernel
theorem d_S_writeBest_58 : decode b_S_writeBest 58 = .ok (.iload 6, 2) := by decide +kernel
theorem d_S_writeBest_60 : decode b_S_writeBest 60 = .ok (.ifCond .eq 8, 3) := by decide +kernel
theorem d_S_writeBest_63 : decode b_S_writeBest 63 = .ok (.bipush (-2), 2) := by decide +kernel
theorem d_S_writeBest_65 : decode b_S_writeBest 65 = .ok (.goto 9, 3) := by decide +kernel
theorem d_S_writeBest_68 : decode b_S_writeBest 68 = .ok (.aload_n 0, 1) := by decide +kernel
theorem d_S_writeBest_69 : decode b_S_writeBest 69 = .ok (.iload 5, 2) := by decide +kernel
theorem d_S_writeBest_71 : decode b_S_writeBest 71 = .ok (.invokevirtual 69, 3) := by decide +kernel
theorem d_S_writeBest_74 : decode b_S_writeBest 74 = .ok (.iastore, 1) := by decide +kernel
theorem d_S_writeBest_75 : decode b_S_writeBest 75 = .ok (.iinc 4 (-1), 3) := by decide +kernel
theorem d_S_writeBest_78 : decode b_S_writeBest 78 = .ok (.goto (-70), 3) := by decide +kernel
theorem d_S_writeBest_81 : decode b_S_writeBest 81 = .ok (.iload_n 1, 1) := by decide +kernel
theorem d_S_writeBest_82 : decode b_S_writeBest 82 = .ok (.istore 4, 2) := by decide +kernel
theorem d_S_writeBest_84 : decode b_S_writeBest 84 = .ok (.iconst 0, 1) := by decide +kernel
theorem d_S_writeBest_85 : decode b_S_writeBest 85 = .ok (.istore 5, 2) := by decide +kernel
theorem d_S_writeBest_87 : decode b_S_writeBest 87 = .ok (.iload 5, 2) := by decide +kernel
theorem d_S_writeBest_89 : decode b_S_writeBest 89 = .ok (.sipush 1023, 3) := by decide +kernel
theorem d_S_writeBest_92 : decode b_S_writeBest 92 = .ok (.if_icmp .ge 48, 3) := by decide +kernel
theorem d_S_writeBest_95 : decode b_S_writeBest 95 = .ok (.aload_n 0, 1) := by decide +kernel
theorem d_S_writeBest_96 : decode b_S_writeBest 96 = .ok (.getfield 18, 3) := by decide +kernel
theorem d_S_writeBest_99 : decode b_S_writeBest 99 = .ok (.iload 4, 2) := by decide +kernel
theorem d_S_writeBest_101 : decode b_S_writeBest 101 = .ok (.iaload, 1) := by decide +kernel
theorem d_S_writeBest_102 : decode b_S_writeBest 102 = .ok (.ifCond .lt 38, 3) := by decide +kernel
theorem d_S_writeBest_105 : decode b_S_writeBest 105 = .ok (.aload_n 3, 1) := by decide +kernel
theorem d_S_writeBest_106 : decode b_S_writeBest 106 = .ok (.aload_n 0, 1) := by decide +kernel
theorem d_S_writeBest_107 : decode b_S_writeBest 107 = .ok (.getfield 18, 3) := by decide +kernel
theorem d_S_writeBest_110 : decode b_S_writeBest 110 = .ok (.iload 4, 2) := by decide +kernel
theorem d_S_writeBest_112 : decode b_S_writeBest 112 = .ok (.iaload, 1) := by decide +kernel
theorem d_S_writeBest_113 : decode b_S_writeBest 113 = .ok (.invokevirtual 73, 3) := by decide +kernel
theorem d_S_writeBest_116 : decode b_S_writeBest 116 = .ok (.aload_n 0, 1) := by decide +kernel
theorem d_S_writeBest_117 : decode b_S_writeBest 117 = .ok (.getfield 24, 3) := by decide +kernel
theorem d_S_writeBest_120 : decode b_S_writeBest 120 = .ok (.aload_n 0, 1) := by decide +kernel
theorem d_S_writeBest_121 : decode b_S_writeBest 121 = .ok (.getfield 18, 3) := by decide +kernel
theorem d_S_writeBest_124 : decode b_S_writeBest 124 = .ok (.iload 4, 2) := by decide +kernel
theorem d_S_writeBest_126 : decode b_S_writeBest 126 = .ok (.iaload, 1) := by decide +kernel
theorem d_S_writeBest_127 : decode b_S_writeBest 127 = .ok (.iload 4, 2) := by decide +kernel
theorem d_S_writeBest_129 : decode b_S_writeBest 129 = .ok (.invokevirtual 79, 3) := by decide +kernel
theorem d_S_writeBest_132 : decode b_S_writeBest 132 = .ok (.istore 4, 2) := by decide +kernel
theorem d_S_writeBest_134 : decode b_S_writeBest 134 = .ok (.iinc 5 1, 3) := by decide +kernel
theorem d_S_writeBest_137 : decode b_S_writeBest 137 = .ok (.goto (-50), 3) := by decide +kernel
theorem d_S_writeBest_140 : decode b_S_writeBest 140 = .ok (.return_, 1) := by decide +kernel
theorem d_S_leastOnward_0 : decode b_S_leastOnward 0 = .ok (.iconst 0, 1) := by decide +kernel
theorem d_S_leastOnward_1 : decode b_S_leastOnward 1 = .ok (.istore_n 2, 1) := by decide +kernel
theorem d_S_leastOnward_2 : decode b_S_leastOnward 2 = .ok (.iload_n 2, 1) := by decide +kernel
theorem d_S_leastOnward_3 : decode b_S_leastOnward 3 = .ok (.aload_n 0, 1) := by decide +kernel
theorem d_S_leastOnward_4 : decode b_S_leastOnward 4 = .ok (.getfield 24, 3) := by decide +kernel
theorem d_S_leastOnward_7 : decode b_S_leastOnward 7 = .ok (.getfield 49, 3) := by decide +kernel
theorem d_S_leastOnward_10 : decode b_S_leastOnward 10 = .ok (.if_icmp .ge 68, 3) := by decide +kernel
theorem d_S_leastOnward_13 : decode b_S_leastOnward 13 = .ok (.aload_n 0, 1) := by decide +kernel
theorem d_S_leastOnward_14 : decode b_S_leastOnward 14 = .ok (.getfield 24, 3) := by decide +kernel
theorem d_S_leastOnward_17 : decode b_S_leastOnward 17 = .ok (.iload_n 2, 1) := by decide +kernel
theorem d_S_leastOnward_18 : decode b_S_leastOnward 18 = .ok (.iload_n 1, 1) := by decide +kernel
theorem d_S_leastOnward_19 : decode b_S_leastOnward 19 = .ok (.invokevirtual 83, 3) := by decide +kernel
theorem d_S_leastOnward_22 : decode b_S_leastOnward 22 = .ok (.ifCond .eq 50, 3) := by decide +kernel
theorem d_S_leastOnward_25 : decode b_S_leastOnward 25 = .ok (.aload_n 0, 1) := by decide +kernel
theorem d_S_leastOnward_26 : decode b_S_leastOnward 26 = .ok (.getfield 24, 3) := by decide +kernel
theorem d_S_leastOnward_29 : decode b_S_leastOnward 29 = .ok (.iload_n 2, 1) := by decide +kernel
theorem d_S_leastOnward_30 : decode b_S_leastOnward 30 = .ok (.iload_n 1, 1) := by decide +kernel
theorem d_S_leastOnward_31 : decode b_S_leastOnward 31 = .ok (.invokevirtual 79, 3) := by decide +kernel
theorem d_S_leastOnward_34 : decode b_S_leastOnward 34 = .ok (.istore_n 3, 1) := by decide +kernel
theorem d_S_leastOnward_35 : decode b_S_leastOnward 35 = .ok (.aload_n 0, 1) := by decide +kernel
theorem d_S_leastOnward_36 : decode b_S_leastOnward 36 = .ok (.getfield 15, 3) := by decide +kernel
theorem d_S_leastOnward_39 : decode b_S_leastOnward 39 = .ok (.iload_n 3, 1) := by decide +kernel
theorem d_S_leastOnward_40 : decode b_S_leastOnward 40 = .ok (.iaload, 1) := by decide +kernel
theorem d_S_leastOnward_41 : decode b_S_leastOnward 41 = .ok (.aload_n 0, 1) := by decide +kernel
theorem d_S_leastOnward_42 : decode b_S_leastOnward 42 = .ok (.getfield 15, 3) := by decide +kernel
theorem d_S_leastOnward_45 : decode b_S_leastOnward 45 = .ok (.iload_n 1, 1) := by decide +kernel
theorem d_S_leastOnward_46 : decode b_S_leastOnward 46 = .ok (.iaload, 1) := by decide +kernel
theorem d_S_leastOnward_47 : decode b_S_leastOnward 47 = .ok (.aload_n 0, 1) := by decide +kernel
theorem d_S_leastOnward_48 : decode b_S_leastOnward 48 = .ok (.getfield 24, 3) := by decide +kernel
theorem d_S_leastOnward_51 : decode b_S_leastOnward 51 = .ok (.getfield 54, 3) := by decide +kernel
theorem d_S_leastOnward_54 : decode b_S_leastOnward 54 = .ok (.iload_n 2, 1) := by decide +kernel
theorem d_S_leastOnward_55 : decode b_S_leastOnward 55 = .ok (.iaload, 1) := by decide +kernel
theorem d_S_leastOnward_56 : decode b_S_leastOnward 56 = .ok (.iadd, 1) := by decide +kernel
theorem d_S_leastOnward_57 : decode b_S_leastOnward 57 = .ok (.if_icmp .ne 15, 3) := by decide +kernel
theorem d_S_leastOnward_60 : decode b_S_leastOnward 60 = .ok (.aload_n 0, 1) := by decide +kernel
theorem d_S_leastOnward_61 : decode b_S_leastOnward 61 = .ok (.getfield 18, 3) := by decide +kernel
theorem d_S_leastOnward_64 : decode b_S_leastOnward 64 = .ok (.iload_n 3, 1) := by decide +kernel
theorem d_S_leastOnward_65 : decode b_S_leastOnward 65 = .ok (.iaload, 1) := by decide +kernel
theorem d_S_leastOnward_66 : decode b_S_leastOnward 66 = .ok (.iconst (-1), 1) := by decide +kernel
theorem d_S_leastOnward_67 : decode b_S_leastOnward 67 = .ok (.if_icmp .eq 5, 3) := by decide +kernel
theorem d_S_leastOnward_70 : decode b_S_leastOnward 70 = .ok (.iload_n 2, 1) := by decide +kernel
theorem d_S_leastOnward_71 : decode b_S_leastOnward 71 = .ok (.ireturn, 1) := by decide +kernel
theorem d_S_leastOnward_72 : decode b_S_leastOnward 72 = .ok (.iinc 2 1, 3) := by decide +kernel
theorem d_S_leastOnward_75 : decode b_S_leastOnward 75 = .ok (.goto (-73), 3) := by decide +kernel
theorem d_S_leastOnward_78 : decode b_S_leastOnward 78 = .ok (.iconst (-1), 1) := by decide +kernel
theorem d_S_leastOnward_79 : decode b_S_leastOnward 79 = .ok (.ireturn, 1) := by decide +kernel
theorem d_S_forget_0 : decode b_S_forget 0 = .ok (.iconst 0, 1) := by decide +kernel
theorem d_S_forget_1 : decode b_S_forget 1 = .ok (.istore_n 1, 1) := by decide +kernel
theorem d_S_forget_2 : decode b_S_forget 2 = .ok (.iload_n 1, 1) := by decide +kernel
theorem d_S_forget_3 : decode b_S_forget 3 = .ok (.aload_n 0, 1) := by decide +kernel
theorem d_S_forget_4 : decode b_S_forget 4 = .ok (.getfield 45, 3) := by decide +kernel
theorem d_S_forget_7 : decode b_S_forget 7 = .ok (.if_icmp .ge 21, 3) := by decide +kernel
theorem d_S_forget_10 : decode b_S_forget 10 = .ok (.aload_n 0, 1) := by decide +kernel
theorem d_S_forget_11 : decode b_S_forget 11 = .ok (.getfield 15, 3) := by decide +kernel
theorem d_S_forget_14 : decode b_S_forget 14 = .ok (.aload_n 0, 1) := by decide +kernel
theorem d_S_forget_15 : decode b_S_forget 15 = .ok (.getfield 9, 3) := by decide +kernel
theorem d_S_forget_18 : decode b_S_forget 18 = .ok (.iload_n 1, 1) := by decide +kernel
theorem d_S_forget_19 : decode b_S_forget 19 = .ok (.iaload, 1) := by decide +kernel
theorem d_S_forget_20 : decode b_S_forget 20 = .ok (.iconst (-1), 1) := by decide +kernel
theorem d_S_forget_21 : decode b_S_forget 21 = .ok (.iastore, 1) := by decide +kernel
theorem d_S_forget_22 : decode b_S_forget 22 = .ok (.iinc 1 1, 3) := by decide +kernel
theorem d_S_forget_25 : decode b_S_forget 25 = .ok (.goto (-23), 3) := by decide +kernel
theorem d_S_forget_28 : decode b_S_forget 28 = .ok (.aload_n 0, 1) := by decide +kernel
theorem d_S_forget_29 : decode b_S_forget 29 = .ok (.iconst 0, 1) := by decide +kernel
theorem d_S_forget_30 : decode b_S_forget 30 = .ok (.putfield 45, 3) := by decide +kernel
theorem d_S_forget_33 : decode b_S_forget 33 = .ok (.return_, 1) := by decide +kernel
theorem d_S_lastSpent_0 : decode b_S_lastSpent 0 = .ok (.aload_n 0, 1) := by decide +kernel
theorem d_S_lastSpent_1 : decode b_S_lastSpent 1 = .ok (.getfield 45, 3) := by decide +kernel
theorem d_S_lastSpent_4 : decode b_S_lastSpent 4 = .ok (.ifCond .ne 7, 3) := by decide +kernel
theorem d_S_lastSpent_7 : decode b_S_lastSpent 7 = .ok (.iconst 0, 1) := by decide +kernel
theorem d_S_lastSpent_8 : decode b_S_lastSpent 8 = .ok (.goto 19, 3) := by decide +kernel
theorem d_S_lastSpent_11 : decode b_S_lastSpent 11 = .ok (.aload_n 0, 1) := by decide +kernel
theorem d_S_lastSpent_12 : decode b_S_lastSpent 12 = .ok (.getfield 15, 3) := by decide +kernel
theorem d_S_lastSpent_15 : decode b_S_lastSpent 15 = .ok (.aload_n 0, 1) := by decide +kernel
theorem d_S_lastSpent_16 : decode b_S_lastSpent 16 = .ok (.getfield 9, 3) := by decide +kernel
theorem d_S_lastSpent_19 : decode b_S_lastSpent 19 = .ok (.aload_n 0, 1) := by decide +kernel
theorem d_S_lastSpent_20 : decode b_S_lastSpent 20 = .ok (.getfield 45, 3) := by decide +kernel
theorem d_S_lastSpent_23 : decode b_S_lastSpent 23 = .ok (.iconst 1, 1) := by decide +kernel
theorem d_S_lastSpent_24 : decode b_S_lastSpent 24 = .ok (.isub, 1) := by decide +kernel
theorem d_S_lastSpent_25 : decode b_S_lastSpent 25 = .ok (.iaload, 1) := by decide +kernel
theorem d_S_lastSpent_26 : decode b_S_lastSpent 26 = .ok (.iaload, 1) := by decide +kernel
theorem d_S_lastSpent_27 : decode b_S_lastSpent 27 = .ok (.ireturn, 1) := by decide +kernel
theorem d_S_spread_0 : decode b_S_spread 0 = .ok (.aload_n 0, 1) := by decide +kernel
theorem d_S_spread_1 : decode b_S_spread 1 = .ok (.getfield 21, 3) := by decide +kernel
theorem d_S_spread_4 : decode b_S_spread 4 = .ok (.iload_n 2, 1) := by decide +kernel
theorem d_S_spread_5 : decode b_S_spread 5 = .ok (.iconst 1, 1) := by decide +kernel
theorem d_S_spread_6 : decode b_S_spread 6 = .ok (.iadd, 1) := by decide +kernel
theorem d_S_spread_7 : decode b_S_spread 7 = .ok (.bipush 10, 2) := by decide +kernel
theorem d_S_spread_9 : decode b_S_spread 9 = .ok (.irem, 1) := by decide +kernel
theorem d_S_spread_10 : decode b_S_spread 10 = .ok (.iaload, 1) := by decide +kernel
theorem d_S_spread_11 : decode b_S_spread 11 = .ok (.istore 4, 2) := by decide +kernel
theorem d_S_spread_13 : decode b_S_spread 13 = .ok (.aload_n 0, 1) := by decide +kernel
theorem d_S_spread_14 : decode b_S_spread 14 = .ok (.getfield 21, 3) := by decide +kernel
theorem d_S_spread_17 : decode b_S_spread 17 = .ok (.iload_n 2, 1) := by decide +kernel
theorem d_S_spread_18 : decode b_S_spread 18 = .ok (.bipush 10, 2) := by decide +kernel
theorem d_S_spread_20 : decode b_S_spread 20 = .ok (.irem, 1) := by decide +kernel
theorem d_S_spread_21 : decode b_S_spread 21 = .ok (.iaload, 1) := by decide +kernel
theorem d_S_spread_22 : decode b_S_spread 22 = .ok (.istore 5, 2) := by decide +kernel
theorem d_S_spread_24 : decode b_S_spread 24 = .ok (.iload 5, 2) := by decide +kernel
theorem d_S_spread_26 : decode b_S_spread 26 = .ok (.iload 4, 2) := by decide +kernel
theorem d_S_spread_28 : decode b_S_spread 28 = .ok (.if_icmp .ge 47, 3) := by decide +kernel
theorem d_S_spread_31 : decode b_S_spread 31 = .ok (.aload_n 0, 1) := by decide +kernel
theorem d_S_spread_32 : decode b_S_spread 32 = .ok (.getfield 24, 3) := by decide +kernel
theorem d_S_spread_35 : decode b_S_spread 35 = .ok (.iload_n 1, 1) := by decide +kernel
theorem d_S_spread_36 : decode b_S_spread 36 = .ok (.aload_n 0, 1) := by decide +kernel
theorem d_S_spread_37 : decode b_S_spread 37 = .ok (.getfield 9, 3) := by decide +kernel
theorem d_S_spread_40 : decode b_S_spread 40 = .ok (.iload 5, 2) := by decide +kernel
theorem d_S_spread_42 : decode b_S_spread 42 = .ok (.iaload, 1) := by decide +kernel
theorem d_S_spread_43 : decode b_S_spread 43 = .ok (.invokevirtual 83, 3) := by decide +kernel
theorem d_S_spread_46 : decode b_S_spread 46 = .ok (.ifCond .eq 23, 3) := by decide +kernel
theorem d_S_spread_49 : decode b_S_spread 49 = .ok (.aload_n 0, 1) := by decide +kernel
theorem d_S_spread_50 : decode b_S_spread 50 = .ok (.aload_n 0, 1) := by decide +kernel
theorem d_S_spread_51 : decode b_S_spread 51 = .ok (.getfield 24, 3) := by decide +kernel
theorem d_S_spread_54 : decode b_S_spread 54 = .ok (.iload_n 1, 1) := by decide +kernel
theorem d_S_spread_55 : decode b_S_spread 55 = .ok (.aload_n 0, 1) := by decide +kernel
theorem d_S_spread_56 : decode b_S_spread 56 = .ok (.getfield 9, 3) := by decide +kernel
theorem d_S_spread_59 : decode b_S_spread 59 = .ok (.iload 5, 2) := by decide +kernel
theorem d_S_spread_61 : decode b_S_spread 61 = .ok (.iaload, 1) := by decide +kernel
theorem d_S_spread_62 : decode b_S_spread 62 = .ok (.invokevirtual 79, 3) := by decide +kernel
theorem d_S_spread_65 : decode b_S_spread 65 = .ok (.iload_n 3, 1) := by decide +kernel
theorem d_S_spread_66 : decode b_S_spread 66 = .ok (.invokevirtual 37, 3) := by decide +kernel
theorem d_S_spread_69 : decode b_S_spread 69 = .ok (.iinc 5 1, 3) := by decide +kernel
theorem d_S_spread_72 : decode b_S_spread 72 = .ok (.goto (-48), 3) := by decide +kernel
theorem d_S_spread_75 : decode b_S_spread 75 = .ok (.return_, 1) := by decide +kernel
theorem d_S_settle_0 : decode b_S_settle 0 = .ok (.aload_n 0, 1) := by decide +kernel
theorem d_S_settle_1 : decode b_S_settle 1 = .ok (.getfield 15, 3) := by decide +kernel
theorem d_S_settle_4 : decode b_S_settle 4 = .ok (.iload_n 1, 1) := by decide +kernel
theorem d_S_settle_5 : decode b_S_settle 5 = .ok (.iaload, 1) := by decide +kernel
theorem d_S_settle_6 : decode b_S_settle 6 = .ok (.iconst (-1), 1) := by decide +kernel
theorem d_S_settle_7 : decode b_S_settle 7 = .ok (.if_icmp .ne 30, 3) := by decide +kernel
theorem d_S_settle_10 : decode b_S_settle 10 = .ok (.aload_n 0, 1) := by decide +kernel
theorem d_S_settle_11 : decode b_S_settle 11 = .ok (.getfield 15, 3) := by decide +kernel
theorem d_S_settle_14 : decode b_S_settle 14 = .ok (.iload_n 1, 1) := by decide +kernel
theorem d_S_settle_15 : decode b_S_settle 15 = .ok (.iload_n 2, 1) := by decide +kernel
theorem d_S_settle_16 : decode b_S_settle 16 = .ok (.iastore, 1) := by decide +kernel
theorem d_S_settle_17 : decode b_S_settle 17 = .ok (.aload_n 0, 1) := by decide +kernel
theorem d_S_settle_18 : decode b_S_settle 18 = .ok (.getfield 9, 3) := by decide +kernel
theorem d_S_settle_21 : decode b_S_settle 21 = .ok (.aload_n 0, 1) := by decide +kernel
theorem d_S_settle_22 : decode b_S_settle 22 = .ok (.getfield 45, 3) := by decide +kernel
theorem d_S_settle_25 : decode b_S_settle 25 = .ok (.iload_n 1, 1) := by decide +kernel
theorem d_S_settle_26 : decode b_S_settle 26 = .ok (.iastore, 1) := by decide +kernel
theorem d_S_settle_27 : decode b_S_settle 27 = .ok (.aload_n 0, 1) := by decide +kernel
theorem d_S_settle_28 : decode b_S_settle 28 = .ok (.dup, 1) := by decide +kernel
theorem d_S_settle_29 : decode b_S_settle 29 = .ok (.getfield 45, 3) := by decide +kernel
theorem d_S_settle_32 : decode b_S_settle 32 = .ok (.iconst 1, 1) := by decide +kernel
theorem d_S_settle_33 : decode b_S_settle 33 = .ok (.iadd, 1) := by decide +kernel
theorem d_S_settle_34 : decode b_S_settle 34 = .ok (.putfield 45, 3) := by decide +kernel
theorem d_S_settle_37 : decode b_S_settle 37 = .ok (.return_, 1) := by decide +kernel
end
section
theorem d_V_init_0 : decode b_V_init 0 = .ok (.aload_n 0, 1) := by decide +kernel
theorem d_V_init_1 : decode b_V_init 1 = .ok (.invokespecial 3, 3) := by decide +kernel
theorem d_V_init_4 : decode b_V_init 4 = .ok (.aload_n 0, 1) := by decide +kernel
theorem d_V_init_5 : decode b_V_init 5 = .ok (.bipush 10, 2) := by decide +kernel
theorem d_V_init_7 : decode b_V_init 7 = .ok (.newarray .int, 2) := by decide +kernel
theorem d_V_init_9 : decode b_V_init 9 = .ok (.putfield 9, 3) := by decide +kernel
theorem d_V_init_12 : decode b_V_init 12 = .ok (.aload_n 0, 1) := by decide +kernel
theorem d_V_init_13 : decode b_V_init 13 = .ok (.aload_n 1, 1) := by decide +kernel
theorem d_V_init_14 : decode b_V_init 14 = .ok (.putfield 15, 3) := by decide +kernel
theorem d_V_init_17 : decode b_V_init 17 = .ok (.return_, 1) := by decide +kernel
theorem d_V_measure_0 : decode b_V_measure 0 = .ok (.iconst 0, 1) := by decide +kernel
theorem d_V_measure_1 : decode b_V_measure 1 = .ok (.istore 5, 2) := by decide +kernel
theorem d_V_measure_3 : decode b_V_measure 3 = .ok (.iload 5, 2) := by decide +kernel
theorem d_V_measure_5 : decode b_V_measure 5 = .ok (.bipush 10, 2) := by decide +kernel
theorem d_V_measure_7 : decode b_V_measure 7 = .ok (.if_icmp .ge 31, 3) := by decide +kernel
theorem d_V_measure_10 : decode b_V_measure 10 = .ok (.aload_n 0, 1) := by decide +kernel
theorem d_V_measure_11 : decode b_V_measure 11 = .ok (.getfield 9, 3) := by decide +kernel
theorem d_V_measure_14 : decode b_V_measure 14 = .ok (.iload 5, 2) := by decide +kernel
theorem d_V_measure_16 : decode b_V_measure 16 = .ok (.iload_n 1, 1) := by decide +kernel
theorem d_V_measure_17 : decode b_V_measure 17 = .ok (.iload 5, 2) := by decide +kernel
theorem d_V_measure_19 : decode b_V_measure 19 = .ok (.invokestatic 19, 3) := by decide +kernel
theorem d_V_measure_22 : decode b_V_measure 22 = .ok (.ifCond .eq 7, 3) := by decide +kernel
theorem d_V_measure_25 : decode b_V_measure 25 = .ok (.iconst 0, 1) := by decide +kernel
theorem d_V_measure_26 : decode b_V_measure 26 = .ok (.goto 5, 3) := by decide +kernel
theorem d_V_measure_29 : decode b_V_measure 29 = .ok (.ldc 23, 2) := by decide +kernel
theorem d_V_measure_31 : decode b_V_measure 31 = .ok (.iastore, 1) := by decide +kernel
theorem d_V_measure_32 : decode b_V_measure 32 = .ok (.iinc 5 1, 3) := by decide +kernel
theorem d_V_measure_35 : decode b_V_measure 35 = .ok (.goto (-32), 3) := by decide +kernel
theorem d_V_measure_38 : decode b_V_measure 38 = .ok (.iconst 1, 1) := by decide +kernel
theorem d_V_measure_39 : decode b_V_measure 39 = .ok (.istore 5, 2) := by decide +kernel
theorem d_V_measure_41 : decode b_V_measure 41 = .ok (.iconst 0, 1) := by decide +kernel
theorem d_V_measure_42 : decode b_V_measure 42 = .ok (.istore 6, 2) := by decide +kernel
theorem d_V_measure_44 : decode b_V_measure 44 = .ok (.iload 6, 2) := by decide +kernel
theorem d_V_measure_46 : decode b_V_measure 46 = .ok (.bipush 10, 2) := by decide +kernel
theorem d_V_measure_48 : decode b_V_measure 48 = .ok (.if_icmp .ge 95, 3) := by decide +kernel
theorem d_V_measure_51 : decode b_V_measure 51 = .ok (.iload 5, 2) := by decide +kernel
theorem d_V_measure_53 : decode b_V_measure 53 = .ok (.ifCond .eq 90, 3) := by decide +kernel
theorem d_V_measure_56 : decode b_V_measure 56 = .ok (.iconst 0, 1) := by decide +kernel
theorem d_V_measure_57 : decode b_V_measure 57 = .ok (.istore 5, 2) := by decide +kernel
theorem d_V_measure_59 : decode b_V_measure 59 = .ok (.iconst 0, 1) := by decide +kernel
theorem d_V_measure_60 : decode b_V_measure 60 = .ok (.istore 7, 2) := by decide +kernel
theorem d_V_measure_62 : decode b_V_measure 62 = .ok (.iload 7, 2) := by decide +kernel
theorem d_V_measure_64 : decode b_V_measure 64 = .ok (.aload_n 0, 1) := by decide +kernel
theorem d_V_measure_65 : decode b_V_measure 65 = .ok (.getfield 15, 3) := by decide +kernel
theorem d_V_measure_68 : decode b_V_measure 68 = .ok (.getfield 24, 3) := by decide +kernel
theorem d_V_measure_71 : decode b_V_measure 71 = .ok (.if_icmp .ge 66, 3) := by decide +kernel
theorem d_V_measure_74 : decode b_V_measure 74 = .ok (.iload 4, 2) := by decide +kernel
theorem d_V_measure_76 : decode b_V_measure 76 = .ok (.iload 7, 2) := by decide +kernel
theorem d_V_measure_78 : decode b_V_measure 78 = .ok (.invokestatic 19, 3) := by decide +kernel
theorem d_V_measure_81 : decode b_V_measure 81 = .ok (.ifCond .ne 50, 3) := by decide +kernel
theorem d_V_measure_84 : decode b_V_measure 84 = .ok (.aload_n 2, 1) := by decide +kernel
theorem d_V_measure_85 : decode b_V_measure 85 = .ok (.iload 7, 2) := by decide +kernel
theorem d_V_measure_87 : decode b_V_measure 87 = .ok (.iaload, 1) := by decide +kernel
theorem d_V_measure_88 : decode b_V_measure 88 = .ok (.aload_n 0, 1) := by decide +kernel
theorem d_V_measure_89 : decode b_V_measure 89 = .ok (.aload_n 0, 1) := by decide +kernel
theorem d_V_measure_90 : decode b_V_measure 90 = .ok (.getfield 15, 3) := by decide +kernel
theorem d_V_measure_93 : decode b_V_measure 93 = .ok (.getfield 30, 3) := by decide +kernel
theorem d_V_measure_96 : decode b_V_measure 96 = .ok (.iconst 0, 1) := by decide +kernel
theorem d_V_measure_97 : decode b_V_measure 97 = .ok (.aaload, 1) := by decide +kernel
theorem d_V_measure_98 : decode b_V_measure 98 = .ok (.iload 7, 2) := by decide +kernel
theorem d_V_measure_100 : decode b_V_measure 100 = .ok (.iaload, 1) := by decide +kernel
theorem d_V_measure_101 : decode b_V_measure 101 = .ok (.iload_n 3, 1) := by decide +kernel
theorem d_V_measure_102 : decode b_V_measure 102 = .ok (.invokevirtual 34, 3) := by decide +kernel
theorem d_V_measure_105 : decode b_V_measure 105 = .ok (.iadd, 1) := by decide +kernel
theorem d_V_measure_106 : decode b_V_measure 106 = .ok (.istore 8, 2) := by decide +kernel
theorem d_V_measure_108 : decode b_V_measure 108 = .ok (.iload 5, 2) := by decide +kernel
theorem d_V_measure_110 : decode b_V_measure 110 = .ok (.aload_n 0, 1) := by decide +kernel
theorem d_V_measure_111 : decode b_V_measure 111 = .ok (.aload_n 0, 1) := by decide +kernel
theorem d_V_measure_112 : decode b_V_measure 112 = .ok (.getfield 15, 3) := by decide +kernel
theorem d_V_measure_115 : decode b_V_measure 115 = .ok (.getfield 30, 3) := by decide +kernel
theorem d_V_measure_118 : decode b_V_measure 118 = .ok (.iconst 1, 1) := by decide +kernel
theorem d_V_measure_119 : decode b_V_measure 119 = .ok (.aaload, 1) := by decide +kernel
theorem d_V_measure_120 : decode b_V_measure 120 = .ok (.iload 7, 2) := by decide +kernel
theorem d_V_measure_122 : decode b_V_measure 122 = .ok (.iaload, 1) := by decide +kernel
theorem d_V_measure_123 : decode b_V_measure 123 = .ok (.iload 8, 2) := by decide +kernel
theorem d_V_measure_125 : decode b_V_measure 125 = .ok (.invokevirtual 38, 3) := by decide +kernel
theorem d_V_measure_128 : decode b_V_measure 128 = .ok (.ior, 1) := by decide +kernel
theorem d_V_measure_129 : decode b_V_measure 129 = .ok (.istore 5, 2) := by decide +kernel
theorem d_V_measure_131 : decode b_V_measure 131 = .ok (.iinc 7 1, 3) := by decide +kernel
theorem d_V_measure_134 : decode b_V_measure 134 = .ok (.goto (-72), 3) := by decide +kernel
theorem d_V_measure_137 : decode b_V_measure 137 = .ok (.iinc 6 1, 3) := by decide +kernel
theorem d_V_measure_140 : decode b_V_measure 140 = .ok (.goto (-96), 3) := by decide +kernel
theorem d_V_measure_143 : decode b_V_measure 143 = .ok (.return_, 1) := by decide +kernel
theorem d_V_joined_0 : decode b_V_joined 0 = .ok (.iconst 0, 1) := by decide +kernel
theorem d_V_joined_1 : decode b_V_joined 1 = .ok (.istore_n 3, 1) := by decide +kernel
theorem d_V_joined_2 : decode b_V_joined 2 = .ok (.iconst 0, 1) := by decide +kernel
theorem d_V_joined_3 : decode b_V_joined 3 = .ok (.istore 4, 2) := by decide +kernel
theorem d_V_joined_5 : decode b_V_joined 5 = .ok (.iload 4, 2) := by decide +kernel
theorem d_V_joined_7 : decode b_V_joined 7 = .ok (.bipush 10, 2) := by decide +kernel
theorem d_V_joined_9 : decode b_V_joined 9 = .ok (.if_icmp .ge 46, 3) := by decide +kernel
theorem d_V_joined_12 : decode b_V_joined 12 = .ok (.iload_n 1, 1) := by decide +kernel
theorem d_V_joined_13 : decode b_V_joined 13 = .ok (.iload 4, 2) := by decide +kernel
theorem d_V_joined_15 : decode b_V_joined 15 = .ok (.invokestatic 19, 3) := by decide +kernel
theorem d_V_joined_18 : decode b_V_joined 18 = .ok (.ifCond .eq 31, 3) := by decide +kernel
theorem d_V_joined_21 : decode b_V_joined 21 = .ok (.iload_n 2, 1) := by decide +kernel
theorem d_V_joined_22 : decode b_V_joined 22 = .ok (.ifCond .eq 15, 3) := by decide +kernel
theorem d_V_joined_25 : decode b_V_joined 25 = .ok (.iload_n 3, 1) := by decide +kernel
theorem d_V_joined_26 : decode b_V_joined 26 = .ok (.aload_n 0, 1) := by decide +kernel
theorem d_V_joined_27 : decode b_V_joined 27 = .ok (.getfield 9, 3) := by decide +kernel
theorem d_V_joined_30 : decode b_V_joined 30 = .ok (.iload 4, 2) := by decide +kernel
theorem d_V_joined_32 : decode b_V_joined 32 = .ok (.iaload, 1) := by decide +kernel
theorem d_V_joined_33 : decode b_V_joined 33 = .ok (.iadd, 1) := by decide +kernel
theorem d_V_joined_34 : decode b_V_joined 34 = .ok (.goto 14, 3) := by decide +kernel
theorem d_V_joined_37 : decode b_V_joined 37 = .ok (.iload_n 3, 1) := by decide +kernel
theorem d_V_joined_38 : decode b_V_joined 38 = .ok (.aload_n 0, 1) := by decide +kernel
theorem d_V_joined_39 : decode b_V_joined 39 = .ok (.getfield 9, 3) := by decide +kernel
theorem d_V_joined_42 : decode b_V_joined 42 = .ok (.iload 4, 2) := by decide +kernel
theorem d_V_joined_44 : decode b_V_joined 44 = .ok (.iaload, 1) := by decide +kernel
theorem d_V_joined_45 : decode b_V_joined 45 = .ok (.invokestatic 41, 3) := by decide +kernel
theorem d_V_joined_48 : decode b_V_joined 48 = .ok (.istore_n 3, 1) := by decide +kernel
theorem d_V_joined_49 : decode b_V_joined 49 = .ok (.iinc 4 1, 3) := by decide +kernel
theorem d_V_joined_52 : decode b_V_joined 52 = .ok (.goto (-47), 3) := by decide +kernel
theorem d_V_joined_55 : decode b_V_joined 55 = .ok (.iload_n 3, 1) := by decide +kernel
theorem d_V_joined_56 : decode b_V_joined 56 = .ok (.ldc 23, 2) := by decide +kernel
theorem d_V_joined_58 : decode b_V_joined 58 = .ok (.invokestatic 47, 3) := by decide +kernel
theorem d_V_joined_61 : decode b_V_joined 61 = .ok (.ireturn, 1) := by decide +kernel
theorem d_V_baseOf_0 : decode b_V_baseOf 0 = .ok (.bipush 10, 2) := by decide +kernel
theorem d_V_baseOf_2 : decode b_V_baseOf 2 = .ok (.istore_n 2, 1) := by decide +kernel
theorem d_V_baseOf_3 : decode b_V_baseOf 3 = .ok (.iconst (-1), 1) := by decide +kernel
theorem d_V_baseOf_4 : decode b_V_baseOf 4 = .ok (.istore_n 3, 1) := by decide +kernel
theorem d_V_baseOf_5 : decode b_V_baseOf 5 = .ok (.iconst 0, 1) := by decide +kernel
theorem d_V_baseOf_6 : decode b_V_baseOf 6 = .ok (.istore 4, 2) := by decide +kernel
theorem d_V_baseOf_8 : decode b_V_baseOf 8 = .ok (.iload 4, 2) := by decide +kernel
theorem d_V_baseOf_10 : decode b_V_baseOf 10 = .ok (.bipush 10, 2) := by decide +kernel
theorem d_V_baseOf_12 : decode b_V_baseOf 12 = .ok (.if_icmp .ge 40, 3) := by decide +kernel
theorem d_V_baseOf_15 : decode b_V_baseOf 15 = .ok (.iload_n 1, 1) := by decide +kernel
theorem d_V_baseOf_16 : decode b_V_baseOf 16 = .ok (.iload 4, 2) := by decide +kernel
theorem d_V_baseOf_18 : decode b_V_baseOf 18 = .ok (.invokestatic 19, 3) := by decide +kernel
theorem d_V_baseOf_21 : decode b_V_baseOf 21 = .ok (.ifCond .eq 25, 3) := by decide +kernel
theorem d_V_baseOf_24 : decode b_V_baseOf 24 = .ok (.aload_n 0, 1) := by decide +kernel
theorem d_V_baseOf_25 : decode b_V_baseOf 25 = .ok (.getfield 9, 3) := by decide +kernel
theorem d_V_baseOf_28 : decode b_V_baseOf 28 = .ok (.iload 4, 2) := by decide +kernel
theorem d_V_baseOf_30 : decode b_V_baseOf 30 = .ok (.iaload, 1) := by decide +kernel
theorem d_V_baseOf_31 : decode b_V_baseOf 31 = .ok (.iload_n 3, 1) := by decide +kernel
theorem d_V_baseOf_32 : decode b_V_baseOf 32 = .ok (.if_icmp .le 14, 3) := by decide +kernel
theorem d_V_baseOf_35 : decode b_V_baseOf 35 = .ok (.iload 4, 2) := by decide +kernel
theorem d_V_baseOf_37 : decode b_V_baseOf 37 = .ok (.istore_n 2, 1) := by decide +kernel
theorem d_V_baseOf_38 : decode b_V_baseOf 38 = .ok (.aload_n 0, 1) := by decide +kernel
theorem d_V_baseOf_39 : decode b_V_baseOf 39 = .ok (.getfield 9, 3) := by decide +kernel
theorem d_V_baseOf_42 : decode b_V_baseOf 42 = .ok (.iload 4, 2) := by decide +kernel
theorem d_V_baseOf_44 : decode b_V_baseOf 44 = .ok (.iaload, 1) := by decide +kernel
theorem d_V_baseOf_45 : decode b_V_baseOf 45 = .ok (.istore_n 3, 1) := by decide +kernel
theorem d_V_baseOf_46 : decode b_V_baseOf 46 = .ok (.iinc 4 1, 3) := by decide +kernel
theorem d_V_baseOf_49 : decode b_V_baseOf 49 = .ok (.goto (-41), 3) := by decide +kernel
theorem d_V_baseOf_52 : decode b_V_baseOf 52 = .ok (.iload_n 3, 1) := by decide +kernel
theorem d_V_baseOf_53 : decode b_V_baseOf 53 = .ok (.ldc 23, 2) := by decide +kernel
theorem d_V_baseOf_55 : decode b_V_baseOf 55 = .ok (.if_icmp .lt 7, 3) := by decide +kernel
theorem d_V_baseOf_58 : decode b_V_baseOf 58 = .ok (.iconst (-1), 1) := by decide +kernel
theorem d_V_baseOf_59 : decode b_V_baseOf 59 = .ok (.goto 4, 3) := by decide +kernel
theorem d_V_baseOf_62 : decode b_V_baseOf 62 = .ok (.iload_n 2, 1) := by decide +kernel
theorem d_V_baseOf_63 : decode b_V_baseOf 63 = .ok (.ireturn, 1) := by decide +kernel
theorem d_V_lower_0 : decode b_V_lower 0 = .ok (.iconst 0, 1) := by decide +kernel
theorem d_V_lower_1 : decode b_V_lower 1 = .ok (.istore_n 3, 1) := by decide +kernel
theorem d_V_lower_2 : decode b_V_lower 2 = .ok (.iconst 0, 1) := by decide +kernel
theorem d_V_lower_3 : decode b_V_lower 3 = .ok (.istore 4, 2) := by decide +kernel
theorem d_V_lower_5 : decode b_V_lower 5 = .ok (.iload 4, 2) := by decide +kernel
theorem d_V_lower_7 : decode b_V_lower 7 = .ok (.bipush 10, 2) := by decide +kernel
theorem d_V_lower_9 : decode b_V_lower 9 = .ok (.if_icmp .ge 39, 3) := by decide +kernel
theorem d_V_lower_12 : decode b_V_lower 12 = .ok (.iload_n 1, 1) := by decide +kernel
theorem d_V_lower_13 : decode b_V_lower 13 = .ok (.iload 4, 2) := by decide +kernel
theorem d_V_lower_15 : decode b_V_lower 15 = .ok (.invokestatic 19, 3) := by decide +kernel
theorem d_V_lower_18 : decode b_V_lower 18 = .ok (.ifCond .eq 24, 3) := by decide +kernel
theorem d_V_lower_21 : decode b_V_lower 21 = .ok (.iload_n 2, 1) := by decide +kernel
theorem d_V_lower_22 : decode b_V_lower 22 = .ok (.aload_n 0, 1) := by decide +kernel
theorem d_V_lower_23 : decode b_V_lower 23 = .ok (.getfield 9, 3) := by decide +kernel
theorem d_V_lower_26 : decode b_V_lower 26 = .ok (.iload 4, 2) := by decide +kernel
theorem d_V_lower_28 : decode b_V_lower 28 = .ok (.iaload, 1) := by decide +kernel
theorem d_V_lower_29 : decode b_V_lower 29 = .ok (.if_icmp .ge 13, 3) := by decide +kernel
theorem d_V_lower_32 : decode b_V_lower 32 = .ok (.aload_n 0, 1) := by decide +kernel
theorem d_V_lower_33 : decode b_V_lower 33 = .ok (.getfield 9, 3) := by decide +kernel
theorem d_V_lower_36 : decode b_V_lower 36 = .ok (.iload 4, 2) := by decide +kernel
theorem d_V_lower_38 : decode b_V_lower 38 = .ok (.iload_n 2, 1) := by decide +kernel
theorem d_V_lower_39 : decode b_V_lower 39 = .ok (.iastore, 1) := by decide +kernel
theorem d_V_lower_40 : decode b_V_lower 40 = .ok (.iconst 1, 1) := by decide +kernel
theorem d_V_lower_41 : decode b_V_lower 41 = .ok (.istore_n 3, 1) := by decide +kernel
theorem d_V_lower_42 : decode b_V_lower 42 = .ok (.iinc 4 1, 3) := by decide +kernel
theorem d_V_lower_45 : decode b_V_lower 45 = .ok (.goto (-40), 3) := by decide +kernel
theorem d_V_lower_48 : decode b_V_lower 48 = .ok (.iload_n 3, 1) := by decide +kernel
theorem d_V_lower_49 : decode b_V_lower 49 = .ok (.ireturn, 1) := by decide +kernel
theorem d_R_init_0 : decode b_R_init 0 = .ok (.aload_n 0, 1) := by decide +kernel
theorem d_R_init_1 : decode b_R_init 1 = .ok (.invokespecial 1, 3) := by decide +kernel
theorem d_R_init_4 : decode b_R_init 4 = .ok (.aload_n 0, 1) := by decide +kernel
theorem d_R_init_5 : decode b_R_init 5 = .ok (.iload_n 1, 1) := by decide +kernel
theorem d_R_init_6 : decode b_R_init 6 = .ok (.newarray .int, 2) := by decide +kernel
theorem d_R_init_8 : decode b_R_init 8 = .ok (.putfield 7, 3) := by decide +kernel
theorem d_R_init_11 : decode b_R_init 11 = .ok (.return_, 1) := by decide +kernel
theorem d_R_empty_0 : decode b_R_empty 0 = .ok (.aload_n 0, 1) := by decide +kernel
theorem d_R_empty_1 : decode b_R_empty 1 = .ok (.iconst 0, 1) := by decide +kernel
theorem d_R_empty_2 : decode b_R_empty 2 = .ok (.putfield 13, 3) := by decide +kernel
theorem d_R_empty_5 : decode b_R_empty 5 = .ok (.return_, 1) := by decide +kernel
theorem d_R_append_0 : decode b_R_append 0 = .ok (.aload_n 0, 1) := by decide +kernel
theorem d_R_append_1 : decode b_R_append 1 = .ok (.getfield 13, 3) := by decide +kernel
theorem d_R_append_4 : decode b_R_append 4 = .ok (.aload_n 0, 1) := by decide +kernel
theorem d_R_append_5 : decode b_R_append 5 = .ok (.getfield 7, 3) := by decide +kernel
theorem d_R_append_8 : decode b_R_append 8 = .ok (.arraylength, 1) := by decide +kernel
theorem d_R_append_9 : decode b_R_append 9 = .ok (.if_icmp .ge 23, 3) := by decide +kernel
theorem d_R_append_12 : decode b_R_append 12 = .ok (.aload_n 0, 1) := by decide +kernel
theorem d_R_append_13 : decode b_R_append 13 = .ok (.getfield 7, 3) := by decide +kernel
theorem d_R_append_16 : decode b_R_append 16 = .ok (.aload_n 0, 1) := by decide +kernel
theorem d_R_append_17 : decode b_R_append 17 = .ok (.getfield 13, 3) := by decide +kernel
theorem d_R_append_20 : decode b_R_append 20 = .ok (.iload_n 1, 1) := by decide +kernel
theorem d_R_append_21 : decode b_R_append 21 = .ok (.iastore, 1) := by decide +kernel
theorem d_R_append_22 : decode b_R_append 22 = .ok (.aload_n 0, 1) := by decide +kernel
theorem d_R_append_23 : decode b_R_append 23 = .ok (.dup, 1) := by decide +kernel
theorem d_R_append_24 : decode b_R_append 24 = .ok (.getfield 13, 3) := by decide +kernel
theorem d_R_append_27 : decode b_R_append 27 = .ok (.iconst 1, 1) := by decide +kernel
theorem d_R_append_28 : decode b_R_append 28 = .ok (.iadd, 1) := by decide +kernel
theorem d_R_append_29 : decode b_R_append 29 = .ok (.putfield 13, 3) := by decide +kernel
theorem d_R_append_32 : decode b_R_append 32 = .ok (.return_, 1) := by decide +kernel
theorem d_T_init_0 : decode b_T_init 0 = .ok (.aload_n 0, 1) := by decide +kernel
theorem d_T_init_1 : decode b_T_init 1 = .ok (.invokespecial 3, 3) := by decide +kernel
theorem d_T_init_4 : decode b_T_init 4 = .ok (.aload_n 0, 1) := by decide +kernel
theorem d_T_init_5 : decode b_T_init 5 = .ok (.bipush 12, 2) := by decide +kernel
theorem d_T_init_7 : decode b_T_init 7 = .ok (.newarray .int, 2) := by decide +kernel
theorem d_T_init_9 : decode b_T_init 9 = .ok (.putfield 9, 3) := by decide +kernel
theorem d_T_init_12 : decode b_T_init 12 = .ok (.aload_n 0, 1) := by decide +kernel
theorem d_T_init_13 : decode b_T_init 13 = .ok (.iconst 3, 1) := by decide +kernel
theorem d_T_init_14 : decode b_T_init 14 = .ok (.bipush 12, 2) := by decide +kernel
theorem d_T_init_16 : decode b_T_init 16 = .ok (.multianewarray 15 2, 4) := by decide +kernel
theorem d_T_init_20 : decode b_T_init 20 = .ok (.putfield 17, 3) := by decide +kernel
theorem d_T_init_23 : decode b_T_init 23 = .ok (.return_, 1) := by decide +kernel
theorem d_T_newFact_0 : decode b_T_newFact 0 = .ok (.aload_n 0, 1) := by decide +kernel
theorem d_T_newFact_1 : decode b_T_newFact 1 = .ok (.getfield 20, 3) := by decide +kernel
theorem d_T_newFact_4 : decode b_T_newFact 4 = .ok (.istore_n 3, 1) := by decide +kernel
theorem d_T_newFact_5 : decode b_T_newFact 5 = .ok (.iload_n 1, 1) := by decide +kernel
theorem d_T_newFact_6 : decode b_T_newFact 6 = .ok (.ifCond .eq 15, 3) := by decide +kernel
theorem d_T_newFact_9 : decode b_T_newFact 9 = .ok (.aload_n 0, 1) := by decide +kernel
theorem d_T_newFact_10 : decode b_T_newFact 10 = .ok (.dup, 1) := by decide +kernel
theorem d_T_newFact_11 : decode b_T_newFact 11 = .ok (.getfield 24, 3) := by decide +kernel
theorem d_T_newFact_14 : decode b_T_newFact 14 = .ok (.iconst 1, 1) := by decide +kernel
theorem d_T_newFact_15 : decode b_T_newFact 15 = .ok (.iload_n 3, 1) := by decide +kernel
theorem d_T_newFact_16 : decode b_T_newFact 16 = .ok (.ishl, 1) := by decide +kernel
theorem d_T_newFact_17 : decode b_T_newFact 17 = .ok (.ior, 1) := by decide +kernel
theorem d_T_newFact_18 : decode b_T_newFact 18 = .ok (.putfield 24, 3) := by decide +kernel
theorem d_T_newFact_21 : decode b_T_newFact 21 = .ok (.iload_n 2, 1) := by decide +kernel
theorem d_T_newFact_22 : decode b_T_newFact 22 = .ok (.ifCond .eq 15, 3) := by decide +kernel
theorem d_T_newFact_25 : decode b_T_newFact 25 = .ok (.aload_n 0, 1) := by decide +kernel
theorem d_T_newFact_26 : decode b_T_newFact 26 = .ok (.dup, 1) := by decide +kernel
theorem d_T_newFact_27 : decode b_T_newFact 27 = .ok (.getfield 27, 3) := by decide +kernel
theorem d_T_newFact_30 : decode b_T_newFact 30 = .ok (.iconst 1, 1) := by decide +kernel
theorem d_T_newFact_31 : decode b_T_newFact 31 = .ok (.iload_n 3, 1) := by decide +kernel
theorem d_T_newFact_32 : decode b_T_newFact 32 = .ok (.ishl, 1) := by decide +kernel
theorem d_T_newFact_33 : decode b_T_newFact 33 = .ok (.ior, 1) := by decide +kernel
theorem d_T_newFact_34 : decode b_T_newFact 34 = .ok (.putfield 27, 3) := by decide +kernel
theorem d_T_newFact_37 : decode b_T_newFact 37 = .ok (.aload_n 0, 1) := by decide +kernel
theorem d_T_newFact_38 : decode b_T_newFact 38 = .ok (.dup, 1) := by decide +kernel
theorem d_T_newFact_39 : decode b_T_newFact 39 = .ok (.getfield 20, 3) := by decide +kernel
theorem d_T_newFact_42 : decode b_T_newFact 42 = .ok (.iconst 1, 1) := by decide +kernel
theorem d_T_newFact_43 : decode b_T_newFact 43 = .ok (.iadd, 1) := by decide +kernel
theorem d_T_newFact_44 : decode b_T_newFact 44 = .ok (.putfield 20, 3) := by decide +kernel
theorem d_T_newFact_47 : decode b_T_newFact 47 = .ok (.iload_n 3, 1) := by decide +kernel
theorem d_T_newFact_48 : decode b_T_newFact 48 = .ok (.ireturn, 1) := by decide +kernel
theorem d_T_newAction_0 : decode b_T_newAction 0 = .ok (.aload_n 0, 1) := by decide +kernel
theorem d_T_newAction_1 : decode b_T_newAction 1 = .ok (.getfield 30, 3) := by decide +kernel
theorem d_T_newAction_4 : decode b_T_newAction 4 = .ok (.istore_n 2, 1) := by decide +kernel
theorem d_T_newAction_5 : decode b_T_newAction 5 = .ok (.aload_n 0, 1) := by decide +kernel
theorem d_T_newAction_6 : decode b_T_newAction 6 = .ok (.getfield 9, 3) := by decide +kernel
theorem d_T_newAction_9 : decode b_T_newAction 9 = .ok (.iload_n 2, 1) := by decide +kernel
theorem d_T_newAction_10 : decode b_T_newAction 10 = .ok (.iload_n 1, 1) := by decide +kernel
theorem d_T_newAction_11 : decode b_T_newAction 11 = .ok (.iastore, 1) := by decide +kernel
theorem d_T_newAction_12 : decode b_T_newAction 12 = .ok (.aload_n 0, 1) := by decide +kernel
theorem d_T_newAction_13 : decode b_T_newAction 13 = .ok (.dup, 1) := by decide +kernel
theorem d_T_newAction_14 : decode b_T_newAction 14 = .ok (.getfield 30, 3) := by decide +kernel
theorem d_T_newAction_17 : decode b_T_newAction 17 = .ok (.iconst 1, 1) := by decide +kernel
theorem d_T_newAction_18 : decode b_T_newAction 18 = .ok (.iadd, 1) := by decide +kernel
theorem d_T_newAction_19 : decode b_T_newAction 19 = .ok (.putfield 30, 3) := by decide +kernel
theorem d_T_newAction_22 : decode b_T_newAction 22 = .ok (.iload_n 2, 1) := by decide +kernel
theorem d_T_newAction_23 : decode b_T_newAction 23 = .ok (.ireturn, 1) := by decide +kernel
theorem d_T_allows_0 : decode b_T_allows 0 = .ok (.iload_n 2, 1) := by decide +kernel
theorem d_T_allows_1 : decode b_T_allows 1 = .ok (.aload_n 0, 1) := by decide +kernel
theorem d_T_allows_2 : decode b_T_allows 2 = .ok (.getfield 17, 3) := by decide +kernel
theorem d_T_allows_5 : decode b_T_allows 5 = .ok (.iconst 0, 1) := by decide +kernel
theorem d_T_allows_6 : decode b_T_allows 6 = .ok (.aaload, 1) := by decide +kernel
theorem d_T_allows_7 : decode b_T_allows 7 = .ok (.iload_n 1, 1) := by decide +kernel
theorem d_T_allows_8 : decode b_T_allows 8 = .ok (.iaload, 1) := by decide +kernel
theorem d_T_allows_9 : decode b_T_allows 9 = .ok (.invokestatic 33, 3) := by decide +kernel
theorem d_T_allows_12 : decode b_T_allows 12 = .ok (.ireturn, 1) := by decide +kernel
theorem d_T_after_0 : decode b_T_after 0 = .ok (.iload_n 2, 1) := by decide +kernel
theorem d_T_after_1 : decode b_T_after 1 = .ok (.aload_n 0, 1) := by decide +kernel
theorem d_T_after_2 : decode b_T_after 2 = .ok (.getfield 17, 3) := by decide +kernel
theorem d_T_after_5 : decode b_T_after 5 = .ok (.iconst 2, 1) := by decide +kernel
theorem d_T_after_6 : decode b_T_after 6 = .ok (.aaload, 1) := by decide +kernel
theorem d_T_after_7 : decode b_T_after 7 = .ok (.iload_n 1, 1) := by decide +kernel
theorem d_T_after_8 : decode b_T_after 8 = .ok (.iaload, 1) := by decide +kernel
theorem d_T_after_9 : decode b_T_after 9 = .ok (.iconst (-1), 1) := by decide +kernel
theorem d_T_after_10 : decode b_T_after 10 = .ok (.ixor, 1) := by decide +kernel
theorem d_T_after_11 : decode b_T_after 11 = .ok (.iand, 1) := by decide +kernel
theorem d_T_after_12 : decode b_T_after 12 = .ok (.aload_n 0, 1) := by decide +kernel
theorem d_T_after_13 : decode b_T_after 13 = .ok (.getfield 17, 3) := by decide +kernel
theorem d_T_after_16 : decode b_T_after 16 = .ok (.iconst 1, 1) := by decide +kernel
theorem d_T_after_17 : decode b_T_after 17 = .ok (.aaload, 1) := by decide +kernel
theorem d_T_after_18 : decode b_T_after 18 = .ok (.iload_n 1, 1) := by decide +kernel
theorem d_T_after_19 : decode b_T_after 19 = .ok (.iaload, 1) := by decide +kernel
theorem d_T_after_20 : decode b_T_after 20 = .ok (.ior, 1) := by decide +kernel
theorem d_T_after_21 : decode b_T_after 21 = .ok (.ireturn, 1) := by decide +kernel
theorem d_T_isMet_0 : decode b_T_isMet 0 = .ok (.iload_n 1, 1) := by decide +kernel
theorem d_T_isMet_1 : decode b_T_isMet 1 = .ok (.aload_n 0, 1) := by decide +kernel
theorem d_T_isMet_2 : decode b_T_isMet 2 = .ok (.getfield 27, 3) := by decide +kernel
theorem d_T_isMet_5 : decode b_T_isMet 5 = .ok (.invokestatic 33, 3) := by decide +kernel
theorem d_T_isMet_8 : decode b_T_isMet 8 = .ok (.ireturn, 1) := by decide +kernel
theorem d_T_addersOf_0 : decode b_T_addersOf 0 = .ok (.iconst 0, 1) := by decide +kernel
theorem d_T_addersOf_1 : decode b_T_addersOf 1 = .ok (.istore_n 2, 1) := by decide +kernel
theorem d_T_addersOf_2 : decode b_T_addersOf 2 = .ok (.iconst 0, 1) := by decide +kernel
theorem d_T_addersOf_3 : decode b_T_addersOf 3 = .ok (.istore_n 3, 1) := by decide +kernel
theorem d_T_addersOf_4 : decode b_T_addersOf 4 = .ok (.iload_n 3, 1) := by decide +kernel
theorem d_T_addersOf_5 : decode b_T_addersOf 5 = .ok (.aload_n 0, 1) := by decide +kernel
theorem d_T_addersOf_6 : decode b_T_addersOf 6 = .ok (.getfield 30, 3) := by decide +kernel
theorem d_T_addersOf_9 : decode b_T_addersOf 9 = .ok (.if_icmp .ge 30, 3) := by decide +kernel
theorem d_T_addersOf_12 : decode b_T_addersOf 12 = .ok (.aload_n 0, 1) := by decide +kernel
theorem d_T_addersOf_13 : decode b_T_addersOf 13 = .ok (.getfield 17, 3) := by decide +kernel
theorem d_T_addersOf_16 : decode b_T_addersOf 16 = .ok (.iconst 1, 1) := by decide +kernel
theorem d_T_addersOf_17 : decode b_T_addersOf 17 = .ok (.aaload, 1) := by decide +kernel
theorem d_T_addersOf_18 : decode b_T_addersOf 18 = .ok (.iload_n 3, 1) := by decide +kernel
theorem d_T_addersOf_19 : decode b_T_addersOf 19 = .ok (.iaload, 1) := by decide +kernel
theorem d_T_addersOf_20 : decode b_T_addersOf 20 = .ok (.iload_n 1, 1) := by decide +kernel
theorem d_T_addersOf_21 : decode b_T_addersOf 21 = .ok (.invokestatic 37, 3) := by decide +kernel
theorem d_T_addersOf_24 : decode b_T_addersOf 24 = .ok (.ifCond .eq 9, 3) := by decide +kernel
theorem d_T_addersOf_27 : decode b_T_addersOf 27 = .ok (.iload_n 2, 1) := by decide +kernel
theorem d_T_addersOf_28 : decode b_T_addersOf 28 = .ok (.iconst 1, 1) := by decide +kernel
theorem d_T_addersOf_29 : decode b_T_addersOf 29 = .ok (.iload_n 3, 1) := by decide +kernel
theorem d_T_addersOf_30 : decode b_T_addersOf 30 = .ok (.ishl, 1) := by decide +kernel
theorem d_T_addersOf_31 : decode b_T_addersOf 31 = .ok (.ior, 1) := by decide +kernel
theorem d_T_addersOf_32 : decode b_T_addersOf 32 = .ok (.istore_n 2, 1) := by decide +kernel
theorem d_T_addersOf_33 : decode b_T_addersOf 33 = .ok (.iinc 3 1, 3) := by decide +kernel
theorem d_T_addersOf_36 : decode b_T_addersOf 36 = .ok (.goto (-32), 3) := by decide +kernel
theorem d_T_addersOf_39 : decode b_T_addersOf 39 = .ok (.iload_n 2, 1) := by decide +kernel
theorem d_T_addersOf_40 : decode b_T_addersOf 40 = .ok (.ireturn, 1) := by decide +kernel
end
section
theorem d_U_init_0 : decode b_U_init 0 = .ok (.aload_n 0, 1) := by decide +kernel
theorem d_U_init_1 : decode b_U_init 1 = .ok (.invokespecial 3, 3) := by decide +kernel
theorem d_U_init_4 : decode b_U_init 4 = .ok (.aload_n 0, 1) := by decide +kernel
theorem d_U_init_5 : decode b_U_init 5 = .ok (.bipush 12, 2) := by decide +kernel
theorem d_U_init_7 : decode b_U_init 7 = .ok (.newarray .int, 2) := by decide +kernel
theorem d_U_init_9 : decode b_U_init 9 = .ok (.putfield 9, 3) := by decide +kernel
theorem d_U_init_12 : decode b_U_init 12 = .ok (.aload_n 0, 1) := by decide +kernel
theorem d_U_init_13 : decode b_U_init 13 = .ok (.bipush 12, 2) := by decide +kernel
theorem d_U_init_15 : decode b_U_init 15 = .ok (.newarray .int, 2) := by decide +kernel
theorem d_U_init_17 : decode b_U_init 17 = .ok (.putfield 15, 3) := by decide +kernel
theorem d_U_init_20 : decode b_U_init 20 = .ok (.aload_n 0, 1) := by decide +kernel
theorem d_U_init_21 : decode b_U_init 21 = .ok (.bipush 12, 2) := by decide +kernel
theorem d_U_init_23 : decode b_U_init 23 = .ok (.newarray .int, 2) := by decide +kernel
theorem d_U_init_25 : decode b_U_init 25 = .ok (.putfield 18, 3) := by decide +kernel
theorem d_U_init_28 : decode b_U_init 28 = .ok (.aload_n 0, 1) := by decide +kernel
theorem d_U_init_29 : decode b_U_init 29 = .ok (.aload_n 1, 1) := by decide +kernel
theorem d_U_init_30 : decode b_U_init 30 = .ok (.putfield 21, 3) := by decide +kernel
theorem d_U_init_33 : decode b_U_init 33 = .ok (.aload_n 0, 1) := by decide +kernel
theorem d_U_init_34 : decode b_U_init 34 = .ok (.aload_n 2, 1) := by decide +kernel
theorem d_U_init_35 : decode b_U_init 35 = .ok (.putfield 25, 3) := by decide +kernel
theorem d_U_init_38 : decode b_U_init 38 = .ok (.return_, 1) := by decide +kernel
theorem d_U_collect_0 : decode b_U_collect 0 = .ok (.aload_n 0, 1) := by decide +kernel
theorem d_U_collect_1 : decode b_U_collect 1 = .ok (.getfield 21, 3) := by decide +kernel
theorem d_U_collect_4 : decode b_U_collect 4 = .ok (.getfield 29, 3) := by decide +kernel
theorem d_U_collect_7 : decode b_U_collect 7 = .ok (.iconst 0, 1) := by decide +kernel
theorem d_U_collect_8 : decode b_U_collect 8 = .ok (.aload_n 0, 1) := by decide +kernel
theorem d_U_collect_9 : decode b_U_collect 9 = .ok (.getfield 9, 3) := by decide +kernel
theorem d_U_collect_12 : decode b_U_collect 12 = .ok (.iconst 0, 1) := by decide +kernel
theorem d_U_collect_13 : decode b_U_collect 13 = .ok (.bipush 12, 2) := by decide +kernel
theorem d_U_collect_15 : decode b_U_collect 15 = .ok (.invokestatic 34, 3) := by decide +kernel
theorem d_U_collect_18 : decode b_U_collect 18 = .ok (.aload_n 0, 1) := by decide +kernel
theorem d_U_collect_19 : decode b_U_collect 19 = .ok (.iconst 0, 1) := by decide +kernel
theorem d_U_collect_20 : decode b_U_collect 20 = .ok (.putfield 40, 3) := by decide +kernel
theorem d_U_collect_23 : decode b_U_collect 23 = .ok (.aload_n 0, 1) := by decide +kernel
theorem d_U_collect_24 : decode b_U_collect 24 = .ok (.iconst 0, 1) := by decide +kernel
theorem d_U_collect_25 : decode b_U_collect 25 = .ok (.putfield 44, 3) := by decide +kernel
theorem d_U_collect_28 : decode b_U_collect 28 = .ok (.aload_n 0, 1) := by decide +kernel
theorem d_U_collect_29 : decode b_U_collect 29 = .ok (.iload_n 1, 1) := by decide +kernel
theorem d_U_collect_30 : decode b_U_collect 30 = .ok (.invokevirtual 47, 3) := by decide +kernel
theorem d_U_collect_33 : decode b_U_collect 33 = .ok (.istore_n 2, 1) := by decide +kernel
theorem d_U_collect_34 : decode b_U_collect 34 = .ok (.iconst 0, 1) := by decide +kernel
theorem d_U_collect_35 : decode b_U_collect 35 = .ok (.istore_n 3, 1) := by decide +kernel
theorem d_U_collect_36 : decode b_U_collect 36 = .ok (.iload_n 3, 1) := by decide +kernel
theorem d_U_collect_37 : decode b_U_collect 37 = .ok (.bipush 12, 2) := by decide +kernel
theorem d_U_collect_39 : decode b_U_collect 39 = .ok (.if_icmp .ge 62, 3) := by decide +kernel
theorem d_U_collect_42 : decode b_U_collect 42 = .ok (.iload_n 2, 1) := by decide +kernel
theorem d_U_collect_43 : decode b_U_collect 43 = .ok (.ifCond .le 58, 3) := by decide +kernel
theorem d_U_collect_46 : decode b_U_collect 46 = .ok (.iload_n 2, 1) := by decide +kernel
theorem d_U_collect_47 : decode b_U_collect 47 = .ok (.ldc 51, 2) := by decide +kernel
theorem d_U_collect_49 : decode b_U_collect 49 = .ok (.if_icmp .ge 52, 3) := by decide +kernel
theorem d_U_collect_52 : decode b_U_collect 52 = .ok (.aload_n 0, 1) := by decide +kernel
theorem d_U_collect_53 : decode b_U_collect 53 = .ok (.getfield 18, 3) := by decide +kernel
theorem d_U_collect_56 : decode b_U_collect 56 = .ok (.iload_n 3, 1) := by decide +kernel
theorem d_U_collect_57 : decode b_U_collect 57 = .ok (.aload_n 0, 1) := by decide +kernel
theorem d_U_collect_58 : decode b_U_collect 58 = .ok (.iload_n 1, 1) := by decide +kernel
theorem d_U_collect_59 : decode b_U_collect 59 = .ok (.invokevirtual 52, 3) := by decide +kernel
theorem d_U_collect_62 : decode b_U_collect 62 = .ok (.iastore, 1) := by decide +kernel
theorem d_U_collect_63 : decode b_U_collect 63 = .ok (.aload_n 0, 1) := by decide +kernel
theorem d_U_collect_64 : decode b_U_collect 64 = .ok (.iload_n 3, 1) := by decide +kernel
theorem d_U_collect_65 : decode b_U_collect 65 = .ok (.iconst 1, 1) := by decide +kernel
theorem d_U_collect_66 : decode b_U_collect 66 = .ok (.iadd, 1) := by decide +kernel
theorem d_U_collect_67 : decode b_U_collect 67 = .ok (.putfield 40, 3) := by decide +kernel
theorem d_U_collect_70 : decode b_U_collect 70 = .ok (.aload_n 0, 1) := by decide +kernel
theorem d_U_collect_71 : decode b_U_collect 71 = .ok (.dup, 1) := by decide +kernel
theorem d_U_collect_72 : decode b_U_collect 72 = .ok (.getfield 44, 3) := by decide +kernel
theorem d_U_collect_75 : decode b_U_collect 75 = .ok (.aload_n 0, 1) := by decide +kernel
theorem d_U_collect_76 : decode b_U_collect 76 = .ok (.aload_n 0, 1) := by decide +kernel
theorem d_U_collect_77 : decode b_U_collect 77 = .ok (.getfield 18, 3) := by decide +kernel
theorem d_U_collect_80 : decode b_U_collect 80 = .ok (.iload_n 3, 1) := by decide +kernel
theorem d_U_collect_81 : decode b_U_collect 81 = .ok (.iaload, 1) := by decide +kernel
theorem d_U_collect_82 : decode b_U_collect 82 = .ok (.invokevirtual 55, 3) := by decide +kernel
theorem d_U_collect_85 : decode b_U_collect 85 = .ok (.iadd, 1) := by decide +kernel
theorem d_U_collect_86 : decode b_U_collect 86 = .ok (.putfield 44, 3) := by decide +kernel
theorem d_U_collect_89 : decode b_U_collect 89 = .ok (.aload_n 0, 1) := by decide +kernel
theorem d_U_collect_90 : decode b_U_collect 90 = .ok (.iload_n 1, 1) := by decide +kernel
theorem d_U_collect_91 : decode b_U_collect 91 = .ok (.invokevirtual 47, 3) := by decide +kernel
theorem d_U_collect_94 : decode b_U_collect 94 = .ok (.istore_n 2, 1) := by decide +kernel
theorem d_U_collect_95 : decode b_U_collect 95 = .ok (.iinc 3 1, 3) := by decide +kernel
theorem d_U_collect_98 : decode b_U_collect 98 = .ok (.goto (-62), 3) := by decide +kernel
theorem d_U_collect_101 : decode b_U_collect 101 = .ok (.iload_n 2, 1) := by decide +kernel
theorem d_U_collect_102 : decode b_U_collect 102 = .ok (.ldc 51, 2) := by decide +kernel
theorem d_U_collect_104 : decode b_U_collect 104 = .ok (.if_icmp .lt 8, 3) := by decide +kernel
theorem d_U_collect_107 : decode b_U_collect 107 = .ok (.aload_n 0, 1) := by decide +kernel
theorem d_U_collect_108 : decode b_U_collect 108 = .ok (.iconst (-1), 1) := by decide +kernel
theorem d_U_collect_109 : decode b_U_collect 109 = .ok (.putfield 44, 3) := by decide +kernel
theorem d_U_collect_112 : decode b_U_collect 112 = .ok (.return_, 1) := by decide +kernel
theorem d_U_goalHeight_0 : decode b_U_goalHeight 0 = .ok (.aload_n 0, 1) := by decide +kernel
theorem d_U_goalHeight_1 : decode b_U_goalHeight 1 = .ok (.getfield 25, 3) := by decide +kernel
theorem d_U_goalHeight_4 : decode b_U_goalHeight 4 = .ok (.iload_n 1, 1) := by decide +kernel
theorem d_U_goalHeight_5 : decode b_U_goalHeight 5 = .ok (.aload_n 0, 1) := by decide +kernel
theorem d_U_goalHeight_6 : decode b_U_goalHeight 6 = .ok (.getfield 9, 3) := by decide +kernel
theorem d_U_goalHeight_9 : decode b_U_goalHeight 9 = .ok (.iconst 0, 1) := by decide +kernel
theorem d_U_goalHeight_10 : decode b_U_goalHeight 10 = .ok (.iconst 0, 1) := by decide +kernel
theorem d_U_goalHeight_11 : decode b_U_goalHeight 11 = .ok (.invokevirtual 58, 3) := by decide +kernel
theorem d_U_goalHeight_14 : decode b_U_goalHeight 14 = .ok (.aload_n 0, 1) := by decide +kernel
theorem d_U_goalHeight_15 : decode b_U_goalHeight 15 = .ok (.getfield 25, 3) := by decide +kernel
theorem d_U_goalHeight_18 : decode b_U_goalHeight 18 = .ok (.aload_n 0, 1) := by decide +kernel
theorem d_U_goalHeight_19 : decode b_U_goalHeight 19 = .ok (.getfield 21, 3) := by decide +kernel
theorem d_U_goalHeight_22 : decode b_U_goalHeight 22 = .ok (.getfield 64, 3) := by decide +kernel
theorem d_U_goalHeight_25 : decode b_U_goalHeight 25 = .ok (.iconst 0, 1) := by decide +kernel
theorem d_U_goalHeight_26 : decode b_U_goalHeight 26 = .ok (.invokevirtual 67, 3) := by decide +kernel
theorem d_U_goalHeight_29 : decode b_U_goalHeight 29 = .ok (.ireturn, 1) := by decide +kernel
theorem d_U_nextCut_0 : decode b_U_nextCut 0 = .ok (.iconst 0, 1) := by decide +kernel
theorem d_U_nextCut_1 : decode b_U_nextCut 1 = .ok (.istore_n 2, 1) := by decide +kernel
theorem d_U_nextCut_2 : decode b_U_nextCut 2 = .ok (.iload_n 2, 1) := by decide +kernel
theorem d_U_nextCut_3 : decode b_U_nextCut 3 = .ok (.aload_n 0, 1) := by decide +kernel
theorem d_U_nextCut_4 : decode b_U_nextCut 4 = .ok (.getfield 21, 3) := by decide +kernel
theorem d_U_nextCut_7 : decode b_U_nextCut 7 = .ok (.getfield 71, 3) := by decide +kernel
theorem d_U_nextCut_10 : decode b_U_nextCut 10 = .ok (.if_icmp .ge 33, 3) := by decide +kernel
theorem d_U_nextCut_13 : decode b_U_nextCut 13 = .ok (.aload_n 0, 1) := by decide +kernel
theorem d_U_nextCut_14 : decode b_U_nextCut 14 = .ok (.getfield 15, 3) := by decide +kernel
theorem d_U_nextCut_17 : decode b_U_nextCut 17 = .ok (.iload_n 2, 1) := by decide +kernel
theorem d_U_nextCut_18 : decode b_U_nextCut 18 = .ok (.aload_n 0, 1) := by decide +kernel
theorem d_U_nextCut_19 : decode b_U_nextCut 19 = .ok (.getfield 25, 3) := by decide +kernel
theorem d_U_nextCut_22 : decode b_U_nextCut 22 = .ok (.aload_n 0, 1) := by decide +kernel
theorem d_U_nextCut_23 : decode b_U_nextCut 23 = .ok (.getfield 21, 3) := by decide +kernel
theorem d_U_nextCut_26 : decode b_U_nextCut 26 = .ok (.getfield 74, 3) := by decide +kernel
theorem d_U_nextCut_29 : decode b_U_nextCut 29 = .ok (.iconst 0, 1) := by decide +kernel
theorem d_U_nextCut_30 : decode b_U_nextCut 30 = .ok (.aaload, 1) := by decide +kernel
theorem d_U_nextCut_31 : decode b_U_nextCut 31 = .ok (.iload_n 2, 1) := by decide +kernel
theorem d_U_nextCut_32 : decode b_U_nextCut 32 = .ok (.iaload, 1) := by decide +kernel
theorem d_U_nextCut_33 : decode b_U_nextCut 33 = .ok (.invokevirtual 78, 3) := by decide +kernel
theorem d_U_nextCut_36 : decode b_U_nextCut 36 = .ok (.iastore, 1) := by decide +kernel
theorem d_U_nextCut_37 : decode b_U_nextCut 37 = .ok (.iinc 2 1, 3) := by decide +kernel
theorem d_U_nextCut_40 : decode b_U_nextCut 40 = .ok (.goto (-38), 3) := by decide +kernel
theorem d_U_nextCut_43 : decode b_U_nextCut 43 = .ok (.aload_n 0, 1) := by decide +kernel
theorem d_U_nextCut_44 : decode b_U_nextCut 44 = .ok (.iconst 1, 1) := by decide +kernel
theorem d_U_nextCut_45 : decode b_U_nextCut 45 = .ok (.aload_n 0, 1) := by decide +kernel
theorem d_U_nextCut_46 : decode b_U_nextCut 46 = .ok (.getfield 25, 3) := by decide +kernel
theorem d_U_nextCut_49 : decode b_U_nextCut 49 = .ok (.aload_n 0, 1) := by decide +kernel
theorem d_U_nextCut_50 : decode b_U_nextCut 50 = .ok (.getfield 21, 3) := by decide +kernel
theorem d_U_nextCut_53 : decode b_U_nextCut 53 = .ok (.getfield 64, 3) := by decide +kernel
theorem d_U_nextCut_56 : decode b_U_nextCut 56 = .ok (.invokevirtual 78, 3) := by decide +kernel
theorem d_U_nextCut_59 : decode b_U_nextCut 59 = .ok (.ishl, 1) := by decide +kernel
theorem d_U_nextCut_60 : decode b_U_nextCut 60 = .ok (.invokevirtual 81, 3) := by decide +kernel
theorem d_U_nextCut_63 : decode b_U_nextCut 63 = .ok (.istore_n 2, 1) := by decide +kernel
theorem d_U_nextCut_64 : decode b_U_nextCut 64 = .ok (.aload_n 0, 1) := by decide +kernel
theorem d_U_nextCut_65 : decode b_U_nextCut 65 = .ok (.iload_n 1, 1) := by decide +kernel
theorem d_U_nextCut_66 : decode b_U_nextCut 66 = .ok (.sipush 1024, 3) := by decide +kernel
theorem d_U_nextCut_69 : decode b_U_nextCut 69 = .ok (.ior, 1) := by decide +kernel
theorem d_U_nextCut_70 : decode b_U_nextCut 70 = .ok (.iload_n 2, 1) := by decide +kernel
theorem d_U_nextCut_71 : decode b_U_nextCut 71 = .ok (.iconst (-1), 1) := by decide +kernel
theorem d_U_nextCut_72 : decode b_U_nextCut 72 = .ok (.ixor, 1) := by decide +kernel
theorem d_U_nextCut_73 : decode b_U_nextCut 73 = .ok (.iand, 1) := by decide +kernel
theorem d_U_nextCut_74 : decode b_U_nextCut 74 = .ok (.iload_n 2, 1) := by decide +kernel
theorem d_U_nextCut_75 : decode b_U_nextCut 75 = .ok (.invokevirtual 84, 3) := by decide +kernel
theorem d_U_nextCut_78 : decode b_U_nextCut 78 = .ok (.istore_n 3, 1) := by decide +kernel
theorem d_U_nextCut_79 : decode b_U_nextCut 79 = .ok (.iconst 0, 1) := by decide +kernel
theorem d_U_nextCut_80 : decode b_U_nextCut 80 = .ok (.istore 4, 2) := by decide +kernel
theorem d_U_nextCut_82 : decode b_U_nextCut 82 = .ok (.iconst 0, 1) := by decide +kernel
theorem d_U_nextCut_83 : decode b_U_nextCut 83 = .ok (.istore 5, 2) := by decide +kernel
theorem d_U_nextCut_85 : decode b_U_nextCut 85 = .ok (.iload 5, 2) := by decide +kernel
theorem d_U_nextCut_87 : decode b_U_nextCut 87 = .ok (.aload_n 0, 1) := by decide +kernel
theorem d_U_nextCut_88 : decode b_U_nextCut 88 = .ok (.getfield 21, 3) := by decide +kernel
theorem d_U_nextCut_91 : decode b_U_nextCut 91 = .ok (.getfield 71, 3) := by decide +kernel
theorem d_U_nextCut_94 : decode b_U_nextCut 94 = .ok (.if_icmp .ge 45, 3) := by decide +kernel
theorem d_U_nextCut_97 : decode b_U_nextCut 97 = .ok (.aload_n 0, 1) := by decide +kernel
theorem d_U_nextCut_98 : decode b_U_nextCut 98 = .ok (.iload_n 3, 1) := by decide +kernel
theorem d_U_nextCut_99 : decode b_U_nextCut 99 = .ok (.iload 5, 2) := by decide +kernel
theorem d_U_nextCut_101 : decode b_U_nextCut 101 = .ok (.invokevirtual 88, 3) := by decide +kernel
theorem d_U_nextCut_104 : decode b_U_nextCut 104 = .ok (.ifCond .eq 29, 3) := by decide +kernel
theorem d_U_nextCut_107 : decode b_U_nextCut 107 = .ok (.aload_n 0, 1) := by decide +kernel
theorem d_U_nextCut_108 : decode b_U_nextCut 108 = .ok (.getfield 21, 3) := by decide +kernel
theorem d_U_nextCut_111 : decode b_U_nextCut 111 = .ok (.getfield 74, 3) := by decide +kernel
theorem d_U_nextCut_114 : decode b_U_nextCut 114 = .ok (.iconst 1, 1) := by decide +kernel
theorem d_U_nextCut_115 : decode b_U_nextCut 115 = .ok (.aaload, 1) := by decide +kernel
theorem d_U_nextCut_116 : decode b_U_nextCut 116 = .ok (.iload 5, 2) := by decide +kernel
theorem d_U_nextCut_118 : decode b_U_nextCut 118 = .ok (.iaload, 1) := by decide +kernel
theorem d_U_nextCut_119 : decode b_U_nextCut 119 = .ok (.iload_n 2, 1) := by decide +kernel
theorem d_U_nextCut_120 : decode b_U_nextCut 120 = .ok (.iand, 1) := by decide +kernel
theorem d_U_nextCut_121 : decode b_U_nextCut 121 = .ok (.ifCond .eq 12, 3) := by decide +kernel
theorem d_U_nextCut_124 : decode b_U_nextCut 124 = .ok (.iload 4, 2) := by decide +kernel
theorem d_U_nextCut_126 : decode b_U_nextCut 126 = .ok (.iconst 1, 1) := by decide +kernel
theorem d_U_nextCut_127 : decode b_U_nextCut 127 = .ok (.iload 5, 2) := by decide +kernel
theorem d_U_nextCut_129 : decode b_U_nextCut 129 = .ok (.ishl, 1) := by decide +kernel
theorem d_U_nextCut_130 : decode b_U_nextCut 130 = .ok (.ior, 1) := by decide +kernel
theorem d_U_nextCut_131 : decode b_U_nextCut 131 = .ok (.istore 4, 2) := by decide +kernel
theorem d_U_nextCut_133 : decode b_U_nextCut 133 = .ok (.iinc 5 1, 3) := by decide +kernel
theorem d_U_nextCut_136 : decode b_U_nextCut 136 = .ok (.goto (-51), 3) := by decide +kernel
theorem d_U_nextCut_139 : decode b_U_nextCut 139 = .ok (.iload 4, 2) := by decide +kernel
theorem d_U_nextCut_141 : decode b_U_nextCut 141 = .ok (.ireturn, 1) := by decide +kernel
theorem d_U_zoneBefore_0 : decode b_U_zoneBefore 0 = .ok (.iload_n 1, 1) := by decide +kernel
theorem d_U_zoneBefore_1 : decode b_U_zoneBefore 1 = .ok (.istore_n 2, 1) := by decide +kernel
theorem d_U_zoneBefore_2 : decode b_U_zoneBefore 2 = .ok (.iconst 0, 1) := by decide +kernel
theorem d_U_zoneBefore_3 : decode b_U_zoneBefore 3 = .ok (.istore_n 3, 1) := by decide +kernel
theorem d_U_zoneBefore_4 : decode b_U_zoneBefore 4 = .ok (.iconst 0, 1) := by decide +kernel
theorem d_U_zoneBefore_5 : decode b_U_zoneBefore 5 = .ok (.istore 4, 2) := by decide +kernel
theorem d_U_zoneBefore_7 : decode b_U_zoneBefore 7 = .ok (.iload 4, 2) := by decide +kernel
theorem d_U_zoneBefore_9 : decode b_U_zoneBefore 9 = .ok (.bipush 10, 2) := by decide +kernel
theorem d_U_zoneBefore_11 : decode b_U_zoneBefore 11 = .ok (.if_icmp .gt 99, 3) := by decide +kernel
theorem d_U_zoneBefore_14 : decode b_U_zoneBefore 14 = .ok (.iload_n 2, 1) := by decide +kernel
theorem d_U_zoneBefore_15 : decode b_U_zoneBefore 15 = .ok (.iload_n 3, 1) := by decide +kernel
theorem d_U_zoneBefore_16 : decode b_U_zoneBefore 16 = .ok (.if_icmp .eq 94, 3) := by decide +kernel
theorem d_U_zoneBefore_19 : decode b_U_zoneBefore 19 = .ok (.iload_n 2, 1) := by decide +kernel
theorem d_U_zoneBefore_20 : decode b_U_zoneBefore 20 = .ok (.istore_n 3, 1) := by decide +kernel
theorem d_U_zoneBefore_21 : decode b_U_zoneBefore 21 = .ok (.iconst 0, 1) := by decide +kernel
theorem d_U_zoneBefore_22 : decode b_U_zoneBefore 22 = .ok (.istore 5, 2) := by decide +kernel
theorem d_U_zoneBefore_24 : decode b_U_zoneBefore 24 = .ok (.iload 5, 2) := by decide +kernel
theorem d_U_zoneBefore_26 : decode b_U_zoneBefore 26 = .ok (.aload_n 0, 1) := by decide +kernel
theorem d_U_zoneBefore_27 : decode b_U_zoneBefore 27 = .ok (.getfield 21, 3) := by decide +kernel
theorem d_U_zoneBefore_30 : decode b_U_zoneBefore 30 = .ok (.getfield 71, 3) := by decide +kernel
theorem d_U_zoneBefore_33 : decode b_U_zoneBefore 33 = .ok (.if_icmp .ge 71, 3) := by decide +kernel
theorem d_U_zoneBefore_36 : decode b_U_zoneBefore 36 = .ok (.aload_n 0, 1) := by decide +kernel
theorem d_U_zoneBefore_37 : decode b_U_zoneBefore 37 = .ok (.getfield 9, 3) := by decide +kernel
theorem d_U_zoneBefore_40 : decode b_U_zoneBefore 40 = .ok (.iload 5, 2) := by decide +kernel
theorem d_U_zoneBefore_42 : decode b_U_zoneBefore 42 = .ok (.iaload, 1) := by decide +kernel
theorem d_U_zoneBefore_43 : decode b_U_zoneBefore 43 = .ok (.ifCond .ne 18, 3) := by decide +kernel
theorem d_U_zoneBefore_46 : decode b_U_zoneBefore 46 = .ok (.aload_n 0, 1) := by decide +kernel
theorem d_U_zoneBefore_47 : decode b_U_zoneBefore 47 = .ok (.getfield 15, 3) := by decide +kernel
theorem d_U_zoneBefore_50 : decode b_U_zoneBefore 50 = .ok (.iload 5, 2) := by decide +kernel
theorem d_U_zoneBefore_52 : decode b_U_zoneBefore 52 = .ok (.iaload, 1) := by decide +kernel
theorem d_U_zoneBefore_53 : decode b_U_zoneBefore 53 = .ok (.iconst (-1), 1) := by decide +kernel
theorem d_U_zoneBefore_54 : decode b_U_zoneBefore 54 = .ok (.if_icmp .eq 7, 3) := by decide +kernel
theorem d_U_zoneBefore_57 : decode b_U_zoneBefore 57 = .ok (.iconst 1, 1) := by decide +kernel
theorem d_U_zoneBefore_58 : decode b_U_zoneBefore 58 = .ok (.goto 4, 3) := by decide +kernel
theorem d_U_zoneBefore_61 : decode b_U_zoneBefore 61 = .ok (.iconst 0, 1) := by decide +kernel
theorem d_U_zoneBefore_62 : decode b_U_zoneBefore 62 = .ok (.istore 6, 2) := by decide +kernel
theorem d_U_zoneBefore_64 : decode b_U_zoneBefore 64 = .ok (.iload 6, 2) := by decide +kernel
theorem d_U_zoneBefore_66 : decode b_U_zoneBefore 66 = .ok (.ifCond .eq 32, 3) := by decide +kernel
theorem d_U_zoneBefore_69 : decode b_U_zoneBefore 69 = .ok (.aload_n 0, 1) := by decide +kernel
theorem d_U_zoneBefore_70 : decode b_U_zoneBefore 70 = .ok (.getfield 21, 3) := by decide +kernel
theorem d_U_zoneBefore_73 : decode b_U_zoneBefore 73 = .ok (.getfield 74, 3) := by decide +kernel
theorem d_U_zoneBefore_76 : decode b_U_zoneBefore 76 = .ok (.iconst 1, 1) := by decide +kernel
theorem d_U_zoneBefore_77 : decode b_U_zoneBefore 77 = .ok (.aaload, 1) := by decide +kernel
theorem d_U_zoneBefore_78 : decode b_U_zoneBefore 78 = .ok (.iload 5, 2) := by decide +kernel
theorem d_U_zoneBefore_80 : decode b_U_zoneBefore 80 = .ok (.iaload, 1) := by decide +kernel
theorem d_U_zoneBefore_81 : decode b_U_zoneBefore 81 = .ok (.iload_n 2, 1) := by decide +kernel
theorem d_U_zoneBefore_82 : decode b_U_zoneBefore 82 = .ok (.iand, 1) := by decide +kernel
theorem d_U_zoneBefore_83 : decode b_U_zoneBefore 83 = .ok (.ifCond .eq 15, 3) := by decide +kernel
theorem d_U_zoneBefore_86 : decode b_U_zoneBefore 86 = .ok (.iload_n 2, 1) := by decide +kernel
theorem d_U_zoneBefore_87 : decode b_U_zoneBefore 87 = .ok (.iconst 1, 1) := by decide +kernel
theorem d_U_zoneBefore_88 : decode b_U_zoneBefore 88 = .ok (.aload_n 0, 1) := by decide +kernel
theorem d_U_zoneBefore_89 : decode b_U_zoneBefore 89 = .ok (.getfield 15, 3) := by decide +kernel
theorem d_U_zoneBefore_92 : decode b_U_zoneBefore 92 = .ok (.iload 5, 2) := by decide +kernel
theorem d_U_zoneBefore_94 : decode b_U_zoneBefore 94 = .ok (.iaload, 1) := by decide +kernel
theorem d_U_zoneBefore_95 : decode b_U_zoneBefore 95 = .ok (.ishl, 1) := by decide +kernel
theorem d_U_zoneBefore_96 : decode b_U_zoneBefore 96 = .ok (.ior, 1) := by decide +kernel
theorem d_U_zoneBefore_97 : decode b_U_zoneBefore 97 = .ok (.istore_n 2, 1) := by decide +kernel
theorem d_U_zoneBefore_98 : decode b_U_zoneBefore 98 = .ok (.iinc 5 1, 3) := by decide +kernel
theorem d_U_zoneBefore_101 : decode b_U_zoneBefore 101 = .ok (.goto (-77), 3) := by decide +kernel
theorem d_U_zoneBefore_104 : decode b_U_zoneBefore 104 = .ok (.iinc 4 1, 3) := by decide +kernel
theorem d_U_zoneBefore_107 : decode b_U_zoneBefore 107 = .ok (.goto (-100), 3) := by decide +kernel
theorem d_U_zoneBefore_110 : decode b_U_zoneBefore 110 = .ok (.iload_n 2, 1) := by decide +kernel
theorem d_U_zoneBefore_111 : decode b_U_zoneBefore 111 = .ok (.ireturn, 1) := by decide +kernel
theorem d_U_restBehind_0 : decode b_U_restBehind 0 = .ok (.iload_n 1, 1) := by decide +kernel
theorem d_U_restBehind_1 : decode b_U_restBehind 1 = .ok (.istore_n 3, 1) := by decide +kernel
theorem d_U_restBehind_2 : decode b_U_restBehind 2 = .ok (.iconst 0, 1) := by decide +kernel
theorem d_U_restBehind_3 : decode b_U_restBehind 3 = .ok (.istore 4, 2) := by decide +kernel
theorem d_U_restBehind_5 : decode b_U_restBehind 5 = .ok (.iconst 0, 1) := by decide +kernel
theorem d_U_restBehind_6 : decode b_U_restBehind 6 = .ok (.istore 5, 2) := by decide +kernel
theorem d_U_restBehind_8 : decode b_U_restBehind 8 = .ok (.iload 5, 2) := by decide +kernel
theorem d_U_restBehind_10 : decode b_U_restBehind 10 = .ok (.bipush 10, 2) := by decide +kernel
theorem d_U_restBehind_12 : decode b_U_restBehind 12 = .ok (.if_icmp .gt 68, 3) := by decide +kernel
theorem d_U_restBehind_15 : decode b_U_restBehind 15 = .ok (.iload_n 3, 1) := by decide +kernel
theorem d_U_restBehind_16 : decode b_U_restBehind 16 = .ok (.iload 4, 2) := by decide +kernel
theorem d_U_restBehind_18 : decode b_U_restBehind 18 = .ok (.if_icmp .eq 62, 3) := by decide +kernel
theorem d_U_restBehind_21 : decode b_U_restBehind 21 = .ok (.iload_n 3, 1) := by decide +kernel
theorem d_U_restBehind_22 : decode b_U_restBehind 22 = .ok (.istore 4, 2) := by decide +kernel
theorem d_U_restBehind_24 : decode b_U_restBehind 24 = .ok (.iconst 0, 1) := by decide +kernel
theorem d_U_restBehind_25 : decode b_U_restBehind 25 = .ok (.istore 6, 2) := by decide +kernel
theorem d_U_restBehind_27 : decode b_U_restBehind 27 = .ok (.iload 6, 2) := by decide +kernel
theorem d_U_restBehind_29 : decode b_U_restBehind 29 = .ok (.aload_n 0, 1) := by decide +kernel
theorem d_U_restBehind_30 : decode b_U_restBehind 30 = .ok (.getfield 21, 3) := by decide +kernel
theorem d_U_restBehind_33 : decode b_U_restBehind 33 = .ok (.getfield 71, 3) := by decide +kernel
theorem d_U_restBehind_36 : decode b_U_restBehind 36 = .ok (.if_icmp .ge 38, 3) := by decide +kernel
theorem d_U_restBehind_39 : decode b_U_restBehind 39 = .ok (.aload_n 0, 1) := by decide +kernel
theorem d_U_restBehind_40 : decode b_U_restBehind 40 = .ok (.iload_n 3, 1) := by decide +kernel
theorem d_U_restBehind_41 : decode b_U_restBehind 41 = .ok (.iload 6, 2) := by decide +kernel
theorem d_U_restBehind_43 : decode b_U_restBehind 43 = .ok (.invokevirtual 88, 3) := by decide +kernel
theorem d_U_restBehind_46 : decode b_U_restBehind 46 = .ok (.ifCond .eq 22, 3) := by decide +kernel
theorem d_U_restBehind_49 : decode b_U_restBehind 49 = .ok (.iload_n 3, 1) := by decide +kernel
theorem d_U_restBehind_50 : decode b_U_restBehind 50 = .ok (.aload_n 0, 1) := by decide +kernel
theorem d_U_restBehind_51 : decode b_U_restBehind 51 = .ok (.getfield 21, 3) := by decide +kernel
theorem d_U_restBehind_54 : decode b_U_restBehind 54 = .ok (.getfield 74, 3) := by decide +kernel
theorem d_U_restBehind_57 : decode b_U_restBehind 57 = .ok (.iconst 1, 1) := by decide +kernel
theorem d_U_restBehind_58 : decode b_U_restBehind 58 = .ok (.aaload, 1) := by decide +kernel
theorem d_U_restBehind_59 : decode b_U_restBehind 59 = .ok (.iload 6, 2) := by decide +kernel
theorem d_U_restBehind_61 : decode b_U_restBehind 61 = .ok (.iaload, 1) := by decide +kernel
theorem d_U_restBehind_62 : decode b_U_restBehind 62 = .ok (.iload_n 2, 1) := by decide +kernel
theorem d_U_restBehind_63 : decode b_U_restBehind 63 = .ok (.iconst (-1), 1) := by decide +kernel
theorem d_U_restBehind_64 : decode b_U_restBehind 64 = .ok (.ixor, 1) := by decide +kernel
theorem d_U_restBehind_65 : decode b_U_restBehind 65 = .ok (.iand, 1) := by decide +kernel
theorem d_U_restBehind_66 : decode b_U_restBehind 66 = .ok (.ior, 1) := by decide +kernel
theorem d_U_restBehind_67 : decode b_U_restBehind 67 = .ok (.istore_n 3, 1) := by decide +kernel
theorem d_U_restBehind_68 : decode b_U_restBehind 68 = .ok (.iinc 6 1, 3) := by decide +kernel
theorem d_U_restBehind_71 : decode b_U_restBehind 71 = .ok (.goto (-44), 3) := by decide +kernel
theorem d_U_restBehind_74 : decode b_U_restBehind 74 = .ok (.iinc 5 1, 3) := by decide +kernel
theorem d_U_restBehind_77 : decode b_U_restBehind 77 = .ok (.goto (-69), 3) := by decide +kernel
theorem d_U_restBehind_80 : decode b_U_restBehind 80 = .ok (.iload_n 3, 1) := by decide +kernel
theorem d_U_restBehind_81 : decode b_U_restBehind 81 = .ok (.ireturn, 1) := by decide +kernel
theorem d_U_isBasedIn_0 : decode b_U_isBasedIn 0 = .ok (.aload_n 0, 1) := by decide +kernel
theorem d_U_isBasedIn_1 : decode b_U_isBasedIn 1 = .ok (.getfield 15, 3) := by decide +kernel
theorem d_U_isBasedIn_4 : decode b_U_isBasedIn 4 = .ok (.iload_n 2, 1) := by decide +kernel
theorem d_U_isBasedIn_5 : decode b_U_isBasedIn 5 = .ok (.iaload, 1) := by decide +kernel
theorem d_U_isBasedIn_6 : decode b_U_isBasedIn 6 = .ok (.iconst (-1), 1) := by decide +kernel
theorem d_U_isBasedIn_7 : decode b_U_isBasedIn 7 = .ok (.if_icmp .eq 20, 3) := by decide +kernel
theorem d_U_isBasedIn_10 : decode b_U_isBasedIn 10 = .ok (.iload_n 1, 1) := by decide +kernel
theorem d_U_isBasedIn_11 : decode b_U_isBasedIn 11 = .ok (.aload_n 0, 1) := by decide +kernel
theorem d_U_isBasedIn_12 : decode b_U_isBasedIn 12 = .ok (.getfield 15, 3) := by decide +kernel
theorem d_U_isBasedIn_15 : decode b_U_isBasedIn 15 = .ok (.iload_n 2, 1) := by decide +kernel
theorem d_U_isBasedIn_16 : decode b_U_isBasedIn 16 = .ok (.iaload, 1) := by decide +kernel
theorem d_U_isBasedIn_17 : decode b_U_isBasedIn 17 = .ok (.invokestatic 92, 3) := by decide +kernel
theorem d_U_isBasedIn_20 : decode b_U_isBasedIn 20 = .ok (.ifCond .eq 7, 3) := by decide +kernel
theorem d_U_isBasedIn_23 : decode b_U_isBasedIn 23 = .ok (.iconst 1, 1) := by decide +kernel
theorem d_U_isBasedIn_24 : decode b_U_isBasedIn 24 = .ok (.goto 4, 3) := by decide +kernel
theorem d_U_isBasedIn_27 : decode b_U_isBasedIn 27 = .ok (.iconst 0, 1) := by decide +kernel
theorem d_U_isBasedIn_28 : decode b_U_isBasedIn 28 = .ok (.ireturn, 1) := by decide +kernel
theorem d_U_pay_0 : decode b_U_pay 0 = .ok (.bipush 9, 2) := by decide +kernel
theorem d_U_pay_2 : decode b_U_pay 2 = .ok (.istore_n 2, 1) := by decide +kernel
theorem d_U_pay_3 : decode b_U_pay 3 = .ok (.iconst 0, 1) := by decide +kernel
theorem d_U_pay_4 : decode b_U_pay 4 = .ok (.istore_n 3, 1) := by decide +kernel
theorem d_U_pay_5 : decode b_U_pay 5 = .ok (.iload_n 3, 1) := by decide +kernel
theorem d_U_pay_6 : decode b_U_pay 6 = .ok (.aload_n 0, 1) := by decide +kernel
theorem d_U_pay_7 : decode b_U_pay 7 = .ok (.getfield 21, 3) := by decide +kernel
theorem d_U_pay_10 : decode b_U_pay 10 = .ok (.getfield 71, 3) := by decide +kernel
theorem d_U_pay_13 : decode b_U_pay 13 = .ok (.if_icmp .ge 28, 3) := by decide +kernel
theorem d_U_pay_16 : decode b_U_pay 16 = .ok (.iload_n 1, 1) := by decide +kernel
theorem d_U_pay_17 : decode b_U_pay 17 = .ok (.iload_n 3, 1) := by decide +kernel
theorem d_U_pay_18 : decode b_U_pay 18 = .ok (.invokestatic 92, 3) := by decide +kernel
theorem d_U_pay_21 : decode b_U_pay 21 = .ok (.ifCond .eq 14, 3) := by decide +kernel
theorem d_U_pay_24 : decode b_U_pay 24 = .ok (.iload_n 2, 1) := by decide +kernel
theorem d_U_pay_25 : decode b_U_pay 25 = .ok (.aload_n 0, 1) := by decide +kernel
theorem d_U_pay_26 : decode b_U_pay 26 = .ok (.getfield 9, 3) := by decide +kernel
theorem d_U_pay_29 : decode b_U_pay 29 = .ok (.iload_n 3, 1) := by decide +kernel
theorem d_U_pay_30 : decode b_U_pay 30 = .ok (.iaload, 1) := by decide +kernel
theorem d_U_pay_31 : decode b_U_pay 31 = .ok (.invokestatic 95, 3) := by decide +kernel
theorem d_U_pay_34 : decode b_U_pay 34 = .ok (.istore_n 2, 1) := by decide +kernel
theorem d_U_pay_35 : decode b_U_pay 35 = .ok (.iinc 3 1, 3) := by decide +kernel
theorem d_U_pay_38 : decode b_U_pay 38 = .ok (.goto (-33), 3) := by decide +kernel
theorem d_U_pay_41 : decode b_U_pay 41 = .ok (.iconst 0, 1) := by decide +kernel
theorem d_U_pay_42 : decode b_U_pay 42 = .ok (.istore_n 3, 1) := by decide +kernel
theorem d_U_pay_43 : decode b_U_pay 43 = .ok (.iload_n 3, 1) := by decide +kernel
theorem d_U_pay_44 : decode b_U_pay 44 = .ok (.aload_n 0, 1) := by decide +kernel
theorem d_U_pay_45 : decode b_U_pay 45 = .ok (.getfield 21, 3) := by decide +kernel
theorem d_U_pay_48 : decode b_U_pay 48 = .ok (.getfield 71, 3) := by decide +kernel
theorem d_U_pay_51 : decode b_U_pay 51 = .ok (.if_icmp .ge 27, 3) := by decide +kernel
theorem d_U_pay_54 : decode b_U_pay 54 = .ok (.iload_n 1, 1) := by decide +kernel
theorem d_U_pay_55 : decode b_U_pay 55 = .ok (.iload_n 3, 1) := by decide +kernel
theorem d_U_pay_56 : decode b_U_pay 56 = .ok (.invokestatic 92, 3) := by decide +kernel
theorem d_U_pay_59 : decode b_U_pay 59 = .ok (.ifCond .eq 13, 3) := by decide +kernel
theorem d_U_pay_62 : decode b_U_pay 62 = .ok (.aload_n 0, 1) := by decide +kernel
theorem d_U_pay_63 : decode b_U_pay 63 = .ok (.getfield 9, 3) := by decide +kernel
theorem d_U_pay_66 : decode b_U_pay 66 = .ok (.iload_n 3, 1) := by decide +kernel
theorem d_U_pay_67 : decode b_U_pay 67 = .ok (.dup2, 1) := by decide +kernel
theorem d_U_pay_68 : decode b_U_pay 68 = .ok (.iaload, 1) := by decide +kernel
theorem d_U_pay_69 : decode b_U_pay 69 = .ok (.iload_n 2, 1) := by decide +kernel
theorem d_U_pay_70 : decode b_U_pay 70 = .ok (.isub, 1) := by decide +kernel
theorem d_U_pay_71 : decode b_U_pay 71 = .ok (.iastore, 1) := by decide +kernel
theorem d_U_pay_72 : decode b_U_pay 72 = .ok (.iinc 3 1, 3) := by decide +kernel
theorem d_U_pay_75 : decode b_U_pay 75 = .ok (.goto (-32), 3) := by decide +kernel
theorem d_U_pay_78 : decode b_U_pay 78 = .ok (.iload_n 2, 1) := by decide +kernel
theorem d_U_pay_79 : decode b_U_pay 79 = .ok (.ireturn, 1) := by decide +kernel
end
section
/-! Sets as ints: and, or, less, one bit, all bits. -/
theorem bm_and (a b : Nat) : nI a &&& nI b = nI (a &&& b) := by
  apply Int32.toBitVec_inj.1
  show BitVec.ofNat 32 a &&& BitVec.ofNat 32 b = BitVec.ofNat 32 (a &&& b)
  apply BitVec.eq_of_getLsbD_eq
  intro i hi
  simp [hi]
theorem bm_or (a b : Nat) : nI a ||| nI b = nI (a ||| b) := by
  apply Int32.toBitVec_inj.1
  show BitVec.ofNat 32 a ||| BitVec.ofNat 32 b = BitVec.ofNat 32 (a ||| b)
  apply BitVec.eq_of_getLsbD_eq
  intro i hi
  simp [hi]
/-- a set less another -/
def bm_dif (a b : Nat) : Nat := a ^^^ (a &&& b)
theorem bm_dif_bit (a b i : Nat) : (bm_dif a b).testBit i = (a.testBit i && !b.testBit i) := by
  unfold bm_dif
  rw [Nat.testBit_xor, Nat.testBit_and]
  cases a.testBit i <;> cases b.testBit i <;> rfl
theorem bm_m1 : ∀ i, i < 32 → (-1 : Int32).toBitVec.getLsbD i = true := by decide +kernel
theorem bm_dif32 (a b : Nat) : nI a &&& (nI b ^^^ (-1)) = nI (bm_dif a b) := by
  apply Int32.toBitVec_inj.1
  apply BitVec.eq_of_getLsbD_eq
  intro i hi
  have e0 : (nI a &&& (nI b ^^^ (-1))).toBitVec = (nI a).toBitVec &&& ((nI b).toBitVec ^^^ (-1 : Int32).toBitVec) := rfl
  rw [e0, BitVec.getLsbD_and, BitVec.getLsbD_xor, bm_m1 i hi]
  show ((BitVec.ofNat 32 a).getLsbD i && ((BitVec.ofNat 32 b).getLsbD i ^^ true)) = (BitVec.ofNat 32 (bm_dif a b)).getLsbD i
  rw [BitVec.getLsbD_ofNat, BitVec.getLsbD_ofNat, BitVec.getLsbD_ofNat, bm_dif_bit]
  simp [hi]
theorem bm_sh : ∀ n, n < 32 → ((nI n &&& 31).toBitVec.smod 32).toNat = n := by decide +kernel
theorem bm_one {j : Nat} (hj : j < 31) : nI 1 <<< (nI j &&& 31) = nI (2 ^ j) := by
  have h := pk_shlN (n := 1) (nI j &&& 31) j (bm_sh j (by omega)) (by rw [Nat.one_mul]; exact Nat.lt_of_lt_of_le (Nat.pow_lt_pow_right (by omega) hj) (by decide))
  rw [Nat.one_mul] at h
  exact h
theorem bm_has {S j : Nat} (hS : S < 2 ^ 31) (hj : j < 32) : nI S >>> (nI j &&& 31) &&& nI 1 = nI (if S.testBit j = true then 1 else 0) := by
  rw [pk_shrN hS (nI j &&& 31) j (bm_sh j hj)]
  have h1 : S / 2 ^ j ≤ S := Nat.div_le_self _ _
  rw [pk_andN (n := S / 2 ^ j) (by omega) (m := nI 1) 1 rfl, Nat.testBit_eq_decide_div_mod_eq]
  have h2 : S / 2 ^ j % 2 ^ 1 = S / 2 ^ j % 2 := rfl
  rw [h2]
  by_cases q : S / 2 ^ j % 2 = 1
  · simp [q]
  · have : S / 2 ^ j % 2 = 0 := by omega
    simp [this]
theorem bm_lt {S n : Nat} (h : ∀ i, S.testBit i = true → i < n) : S < 2 ^ n := by
  apply Nat.lt_pow_two_of_testBit
  intro i hi
  cases hx : S.testBit i with
  | false => rfl
  | true => have := h i hx; omega
theorem bm_bit_lt {S n i : Nat} (h : S < 2 ^ n) (hi : S.testBit i = true) : i < n := by
  by_cases z : i < n
  · exact z
  · have := Nat.testBit_lt_two_pow (x := S) (i := i) (Nat.lt_of_lt_of_le h (Nat.pow_le_pow_right (by omega) (by omega)))
    rw [hi] at this; cases this
theorem bm_inc (i : Nat) : nI i + Int32.ofInt 1 = nI (i + 1) := nI_1 i
theorem bm_max {a b : Nat} (ha : a < 2 ^ 31) (hb : b < 2 ^ 31) : (if nI a < nI b then nI b else nI a) = nI (max a b) := by
  by_cases q : a < b
  · rw [if_pos ((nI_ltI ha hb).mpr q), Nat.max_eq_right (Nat.le_of_lt q)]
  · rw [if_neg (fun z => q ((nI_ltI ha hb).mp z)), Nat.max_eq_left (Nat.not_lt.mp q)]
theorem bm_min {a b : Nat} (ha : a < 2 ^ 31) (hb : b < 2 ^ 31) : (if nI b < nI a then nI b else nI a) = nI (min a b) := by
  by_cases q : b < a
  · rw [if_pos ((nI_ltI hb ha).mpr q), Nat.min_eq_right (Nat.le_of_lt q)]
  · rw [if_neg (fun z => q ((nI_ltI hb ha).mp z)), Nat.min_eq_left (Nat.not_lt.mp q)]
/-- a truth value as a number -/
abbrev bm_b (b : Bool) : Nat := if b = true then 1 else 0
theorem bm_b_lt (b : Bool) : bm_b b < 2 := by cases b <;> decide
theorem bm_orb (a b : Bool) : nI (bm_b a) ||| nI (bm_b b) = nI (bm_b (a || b)) := by cases a <;> cases b <;> decide
theorem bm_zn (b : Bool) : narrow .boolean (.int (nI (bm_b b))) = .int (nI (bm_b b)) := by cases b <;> decide
theorem bm_pos (b : Bool) (P : Prop) [Decidable P] (h : b = decide P) : bm_b b = if P then 1 else 0 := by
  subst h
  by_cases p : P
  · simp [p]
  · simp [p]
theorem bm_nle {x : Nat} (h : x < 2 ^ 31) : ¬ nI x ≤ (-1 : Int32) := by
  rw [Int32.le_iff_toInt_le, nI_toInt h]
  have : ((-1 : Int32)).toInt = -1 := by decide
  rw [this]
  omega
theorem bm_m1lt {x : Nat} (h : x < 2 ^ 31) : (-1 : Int32) < nI x := by
  rw [Int32.lt_iff_toInt_lt, nI_toInt h]
  have : ((-1 : Int32)).toInt = -1 := by decide
  rw [this]
  omega
theorem bm_m1ne {x : Nat} (h : x < 2 ^ 31) : nI x ≠ (-1 : Int32) := fun e => bm_nle h (by rw [e]; decide)
theorem ts_f {x : Bool} (h : ¬ x = true) : x = false := by simpa using h
end
section
/-! The world: the class's cells (0 to 21) and the reference's (22 to 33), at the addresses q; v: the ints of the objects; r: the arrays by their cells; ex: what else there is. -/
def wd_lk (q : Nat → Nat) : Nat → Option Nat
  | 0 => some (q 4)
  | 1 => some (q 5)
  | 2 => some (q 6)
  | _ => none
abbrev wd_ty (k : Nat → ClassId) : List (ClassId × FieldType) := [(k 0, .int), (k 1, .boolean), (k 2, .array .int), (k 3, .long)]
abbrev wd (k : Nat → ClassId) (q : Nat → Nat) (v : Nat → Int32) (r : Nat → Nat → Int32) (ex : va_W) : va_W :=
  (q 0, .inr (0, [.ref (q 1), .ref (q 7), .ref (q 12), .ref (q 14), .ref (q 16), .ref (q 18), .int (v 9)])) ::
  (q 1, .inr (1, [.ref (q 2), .ref (q 3), .int (v 0), .int (v 1), .int (v 2), .int (v 3)])) ::
  (q 2, .inl (k 0, 12, .inl (r 2))) ::
  (q 3, .inl (k 2, 3, .inr (.inr (.inr (.inr (wd_lk q)))))) ::
  (q 4, .inl (k 0, 12, .inl (r 4))) ::
  (q 5, .inl (k 0, 12, .inl (r 5))) ::
  (q 6, .inl (k 0, 12, .inl (r 6))) ::
  (q 7, .inr (3, [.ref (q 1), .ref (q 8), .ref (q 9), .ref (q 10), .ref (q 11), .int (v 4)])) ::
  (q 8, .inl (k 0, 1024, .inl (r 8))) ::
  (q 9, .inl (k 0, 1024, .inl (r 9))) ::
  (q 10, .inl (k 0, 1024, .inl (r 10))) ::
  (q 11, .inl (k 0, 10, .inl (r 11))) ::
  (q 12, .inr (2, [.ref (q 13), .int (v 5)])) ::
  (q 13, .inl (k 0, 1023, .inl (r 13))) ::
  (q 14, .inr (2, [.ref (q 15), .int (v 6)])) ::
  (q 15, .inl (k 0, 24, .inl (r 15))) ::
  (q 16, .inr (4, [.ref (q 1), .ref (q 17)])) ::
  (q 17, .inl (k 0, 10, .inl (r 17))) ::
  (q 18, .inr (5, [.ref (q 1), .ref (q 16), .ref (q 19), .ref (q 20), .ref (q 21), .int (v 7), .int (v 8)])) ::
  (q 19, .inl (k 0, 12, .inl (r 19))) ::
  (q 20, .inl (k 0, 12, .inl (r 20))) ::
  (q 21, .inl (k 0, 12, .inl (r 21))) ::
  (q 22, .inr (6, [.int (v 10), .int (v 11), .int (v 12), .int (v 13), .int (v 14), .ref (q 23), .ref (q 24), .ref (q 25), .ref (q 26), .int (v 15), .int (v 16), .ref (q 27), .int (v 17), .ref (q 28), .ref (q 29), .ref (q 30), .ref (q 31), .ref (q 32), .int (v 18), .ref (q 33), .int (v 19)])) ::
  (q 23, .inl (k 0, 12, .inl (r 23))) ::
  (q 24, .inl (k 0, 12, .inl (r 24))) ::
  (q 25, .inl (k 0, 12, .inl (r 25))) ::
  (q 26, .inl (k 0, 12, .inl (r 26))) ::
  (q 27, .inl (k 0, 1024, .inl (r 27))) ::
  (q 28, .inl (k 0, 24, .inl (r 28))) ::
  (q 29, .inl (k 0, 1024, .inl (r 29))) ::
  (q 30, .inl (k 1, 1024, .inl (r 30))) ::
  (q 31, .inl (k 0, 12, .inl (r 31))) ::
  (q 32, .inl (k 0, 10, .inl (r 32))) ::
  (q 33, .inl (k 0, 128, .inl (r 33))) :: ex
end
section
/-! Levels and weights, as numbers alone: a round lowers by each action in turn (lm_rd); from the start it comes, within as many rounds as there are facts, to the greatest solution. -/
def lm_jp (w : Bool) (h : Nat → Nat) (S : Nat) : Nat → Nat
  | 0 => 0
  | i + 1 => if S.testBit i = true then (if w = true then lm_jp w h S i + h i else max (lm_jp w h S i) (h i)) else lm_jp w h S i
def lm_jn (K : Nat) (w : Bool) (h : Nat → Nat) (S n : Nat) : Nat := min (lm_jp w h S n) K
theorem lm_jp_mono {w : Bool} {h g : Nat → Nat} {S : Nat} : ∀ {n : Nat}, (∀ f, f < n → S.testBit f = true → h f ≤ g f) → lm_jp w h S n ≤ lm_jp w g S n
  | 0, _ => Nat.le_refl _
  | n + 1, hh => by
    have ih := lm_jp_mono (w := w) (n := n) (fun f hf hb => hh f (by omega) hb)
    unfold lm_jp
    by_cases hb : S.testBit n = true
    · have h1 := hh n (by omega) hb
      simp only [hb, if_true]
      cases w with
      | true => simp only [if_true]; omega
      | false => simp only [Bool.false_eq_true, if_false]; omega
    · simp only [hb]; exact ih
theorem lm_jp_congr {w : Bool} {h g : Nat → Nat} {S n : Nat} (hh : ∀ f, f < n → S.testBit f = true → h f = g f) : lm_jp w h S n = lm_jp w g S n :=
  Nat.le_antisymm (lm_jp_mono fun f hf hb => Nat.le_of_eq (hh f hf hb)) (lm_jp_mono fun f hf hb => Nat.le_of_eq (hh f hf hb).symm)
theorem lm_jp_ge {w : Bool} {h : Nat → Nat} {S : Nat} : ∀ {n f : Nat}, f < n → S.testBit f = true → h f ≤ lm_jp w h S n
  | 0, f, hf, _ => by omega
  | n + 1, f, hf, hb => by
    unfold lm_jp
    by_cases e : f = n
    · subst e
      simp only [hb, if_true]
      cases w with
      | true => simp only [if_true]; omega
      | false => simp only [Bool.false_eq_true, if_false]; omega
    · have ih := lm_jp_ge (w := w) (h := h) (n := n) (f := f) (by omega) hb
      by_cases hb2 : S.testBit n = true
      · simp only [hb2, if_true]
        cases w with
        | true => simp only [if_true]; omega
        | false => simp only [Bool.false_eq_true, if_false]; omega
      · simp only [hb2]; exact ih
theorem lm_jn_mono {K : Nat} {w : Bool} {h g : Nat → Nat} {S n : Nat} (hh : ∀ f, f < n → S.testBit f = true → h f ≤ g f) : lm_jn K w h S n ≤ lm_jn K w g S n := by
  have := lm_jp_mono (w := w) hh
  unfold lm_jn; omega
theorem lm_jn_congr {K : Nat} {w : Bool} {h g : Nat → Nat} {S n : Nat} (hh : ∀ f, f < n → S.testBit f = true → h f = g f) : lm_jn K w h S n = lm_jn K w g S n := by
  unfold lm_jn; rw [lm_jp_congr hh]
theorem lm_jn_le (K : Nat) (w : Bool) (h : Nat → Nat) (S n : Nat) : lm_jn K w h S n ≤ K := by unfold lm_jn; omega
theorem lm_jn_ge {K : Nat} {w : Bool} {h : Nat → Nat} {S n f : Nat} (hf : f < n) (hb : S.testBit f = true) (hK : h f ≤ K) : h f ≤ lm_jn K w h S n := by
  have := lm_jp_ge (w := w) (h := h) hf hb
  unfold lm_jn; omega
/-- an action lowers the facts that it adds -/
def lm_act (K : Nat) (w : Bool) (n : Nat) (c ne ad : Nat → Nat) (a : Nat) (h : Nat → Nat) : Nat → Nat := fun f => if (ad a).testBit f = true ∧ c a + lm_jn K w h (ne a) n < h f then c a + lm_jn K w h (ne a) n else h f
/-- a round: every action that isn't barred, in turn -/
def lm_rd (K : Nat) (w : Bool) (n : Nat) (c ne ad : Nat → Nat) (bar : Nat → Bool) (h : Nat → Nat) : Nat → Nat → Nat
  | 0 => h
  | a + 1 => if bar a = true then lm_rd K w n c ne ad bar h a else lm_act K w n c ne ad a (lm_rd K w n c ne ad bar h a)
def lm_it (K : Nat) (w : Bool) (n na : Nat) (c ne ad : Nat → Nat) (bar : Nat → Bool) (h : Nat → Nat) : Nat → Nat → Nat
  | 0 => h
  | k + 1 => lm_rd K w n c ne ad bar (lm_it K w n na c ne ad bar h k) na
def lm_i0 (K s : Nat) : Nat → Nat := fun f => if s.testBit f = true then 0 else K
/-- a solution from below: no action lowers it -/
def lm_px (K : Nat) (w : Bool) (n na : Nat) (c ne ad : Nat → Nat) (bar : Nat → Bool) (Y : Nat → Nat) : Prop := ∀ a f, a < na → bar a = false → f < n → (ad a).testBit f = true → Y f ≤ c a + lm_jn K w Y (ne a) n
section LM
variable {K : Nat} {w : Bool} {n na : Nat} {c ne ad : Nat → Nat} {bar : Nat → Bool}
theorem lm_act_le (a : Nat) (h : Nat → Nat) (f : Nat) : lm_act K w n c ne ad a h f ≤ h f := by
  unfold lm_act
  split
  · next q => omega
  · exact Nat.le_refl _
theorem lm_act_px {Y h : Nat → Nat} {a : Nat} (hY : lm_px K w n na c ne ad bar Y) (ha : a < na) (hb : bar a = false) (hh : ∀ f, f < n → Y f ≤ h f) : ∀ f, f < n → Y f ≤ lm_act K w n c ne ad a h f := by
  intro f hf
  unfold lm_act
  split
  · next q =>
    have h1 := hY a f ha hb hf q.1
    have h2 : lm_jn K w Y (ne a) n ≤ lm_jn K w h (ne a) n := lm_jn_mono fun g hg _ => hh g hg
    omega
  · exact hh f hf
theorem lm_rd_le (h : Nat → Nat) : ∀ (k f : Nat), lm_rd K w n c ne ad bar h k f ≤ h f
  | 0, f => Nat.le_refl _
  | k + 1, f => by
    have ih := lm_rd_le h k f
    unfold lm_rd
    split
    · exact ih
    · exact Nat.le_trans (lm_act_le _ _ _) ih
theorem lm_rd_px {Y h : Nat → Nat} (hY : lm_px K w n na c ne ad bar Y) (hh : ∀ f, f < n → Y f ≤ h f) : ∀ k, k ≤ na → ∀ f, f < n → Y f ≤ lm_rd K w n c ne ad bar h k f
  | 0, _ => hh
  | k + 1, hk => by
    have ih := lm_rd_px hY hh k (by omega)
    unfold lm_rd
    split
    · exact ih
    · next q => exact lm_act_px hY (by omega) (by simpa using q) ih
theorem lm_it_px {Y h : Nat → Nat} (hY : lm_px K w n na c ne ad bar Y) (hh : ∀ f, f < n → Y f ≤ h f) : ∀ k f, f < n → Y f ≤ lm_it K w n na c ne ad bar h k f
  | 0 => hh
  | k + 1 => lm_rd_px hY (lm_it_px hY hh k) na (Nat.le_refl _)
theorem lm_it_le (h : Nat → Nat) : ∀ (k f : Nat), lm_it K w n na c ne ad bar h k f ≤ h f
  | 0, _ => Nat.le_refl _
  | k + 1, f => Nat.le_trans (lm_rd_le _ _ _) (lm_it_le h k f)
/-- behind an action a round's value is at most what the action gives -/
theorem lm_rd_hit (h : Nat → Nat) {a f : Nat} (hb : bar a = false) (hf : (ad a).testBit f = true) : ∀ k, a < k → lm_rd K w n c ne ad bar h k f ≤ c a + lm_jn K w h (ne a) n
  | 0, hk => by omega
  | k + 1, hk => by
    by_cases e : a = k
    · subst e
      unfold lm_rd
      rw [if_neg (by rw [hb]; decide)]
      have h1 : lm_jn K w (lm_rd K w n c ne ad bar h a) (ne a) n ≤ lm_jn K w h (ne a) n := lm_jn_mono fun g _ _ => lm_rd_le h a g
      unfold lm_act
      split
      · omega
      · next q =>
        have : ¬ (c a + lm_jn K w (lm_rd K w n c ne ad bar h a) (ne a) n < lm_rd K w n c ne ad bar h a f) := fun z => q ⟨hf, z⟩
        omega
    · have ih := lm_rd_hit h hb hf k (by omega)
      unfold lm_rd
      split
      · exact ih
      · exact Nat.le_trans (lm_act_le _ _ _) ih
/-- a round that changes nothing: a solution -/
theorem lm_rd_fix {h : Nat → Nat} (hh : ∀ f, f < n → lm_rd K w n c ne ad bar h na f = h f) : lm_px K w n na c ne ad bar h := by
  intro a f ha hb hf hq
  have := lm_rd_hit (K := K) (w := w) (n := n) (c := c) (ne := ne) h hb hq na ha
  rw [hh f hf] at this
  exact this
/-- all actions at once -/
def lm_jc (K : Nat) (w : Bool) (n : Nat) (c ne ad : Nat → Nat) (bar : Nat → Bool) (h : Nat → Nat) (f : Nat) : Nat → Nat
  | 0 => h f
  | a + 1 => if bar a = false ∧ (ad a).testBit f = true then min (lm_jc K w n c ne ad bar h f a) (c a + lm_jn K w h (ne a) n) else lm_jc K w n c ne ad bar h f a
theorem lm_jc_le (h : Nat → Nat) (f : Nat) : ∀ k, lm_jc K w n c ne ad bar h f k ≤ h f
  | 0 => Nat.le_refl _
  | k + 1 => by
    have ih := lm_jc_le h f k
    unfold lm_jc
    split <;> omega
theorem lm_jc_hit (h : Nat → Nat) {a f : Nat} (hb : bar a = false) (hf : (ad a).testBit f = true) : ∀ k, a < k → lm_jc K w n c ne ad bar h f k ≤ c a + lm_jn K w h (ne a) n
  | 0, hk => by omega
  | k + 1, hk => by
    unfold lm_jc
    by_cases e : a = k
    · subst e
      rw [if_pos ⟨hb, hf⟩]
      omega
    · have ih := lm_jc_hit h hb hf k (by omega)
      split <;> omega
theorem lm_jc_of (h : Nat → Nat) (f : Nat) : ∀ k, lm_jc K w n c ne ad bar h f k = h f ∨ ∃ a, a < k ∧ bar a = false ∧ (ad a).testBit f = true ∧ lm_jc K w n c ne ad bar h f k = c a + lm_jn K w h (ne a) n
  | 0 => Or.inl rfl
  | k + 1 => by
    have ih := lm_jc_of h f k
    unfold lm_jc
    split
    · next q =>
      by_cases z : lm_jc K w n c ne ad bar h f k ≤ c k + lm_jn K w h (ne k) n
      · rw [Nat.min_eq_left z]
        rcases ih with ih | ⟨a, h1, h2, h3, h4⟩
        · exact Or.inl ih
        · exact Or.inr ⟨a, by omega, h2, h3, h4⟩
      · exact Or.inr ⟨k, by omega, q.1, q.2, by omega⟩
    · rcases ih with ih | ⟨a, h1, h2, h3, h4⟩
      · exact Or.inl ih
      · exact Or.inr ⟨a, by omega, h2, h3, h4⟩
theorem lm_jc_mono {h g : Nat → Nat} (hh : ∀ f, f < n → h f ≤ g f) {f : Nat} (hf : f < n) : ∀ k, lm_jc K w n c ne ad bar h f k ≤ lm_jc K w n c ne ad bar g f k
  | 0 => hh f hf
  | k + 1 => by
    have ih := lm_jc_mono hh hf k
    have h2 : lm_jn K w h (ne k) n ≤ lm_jn K w g (ne k) n := lm_jn_mono fun g hg _ => hh g hg
    unfold lm_jc
    split <;> omega
/-- a round in turn goes at least as far as all at once -/
theorem lm_rd_jc (h : Nat → Nat) (f : Nat) : lm_rd K w n c ne ad bar h na f ≤ lm_jc K w n c ne ad bar h f na := by
  rcases lm_jc_of (K := K) (w := w) (n := n) (c := c) (ne := ne) (ad := ad) (bar := bar) h f na with q | ⟨a, h1, h2, h3, h4⟩
  · rw [q]; exact lm_rd_le _ _ _
  · rw [h4]; exact lm_rd_hit h h2 h3 na h1
def lm_J (K : Nat) (w : Bool) (n na : Nat) (c ne ad : Nat → Nat) (bar : Nat → Bool) (h : Nat → Nat) : Nat → Nat → Nat
  | 0 => h
  | k + 1 => fun f => lm_jc K w n c ne ad bar (lm_J K w n na c ne ad bar h k) f na
theorem lm_J_step (h : Nat → Nat) (k f : Nat) : lm_J K w n na c ne ad bar h (k + 1) f ≤ lm_J K w n na c ne ad bar h k f := lm_jc_le _ _ _
theorem lm_J_anti (h : Nat → Nat) {i : Nat} (f : Nat) : ∀ j, i ≤ j → lm_J K w n na c ne ad bar h j f ≤ lm_J K w n na c ne ad bar h i f
  | 0, hj => by have : i = 0 := by omega
                subst this; exact Nat.le_refl _
  | j + 1, hj => by
    by_cases e : i = j + 1
    · subst e; exact Nat.le_refl _
    · exact Nat.le_trans (lm_J_step h j f) (lm_J_anti h f j (by omega))
theorem lm_it_J (h : Nat → Nat) : ∀ k f, f < n → lm_it K w n na c ne ad bar h k f ≤ lm_J K w n na c ne ad bar h k f
  | 0, _, _ => Nat.le_refl _
  | k + 1, f, hf => Nat.le_trans (lm_rd_jc _ f) (lm_jc_mono (fun g hg => lm_it_J h k g hg) hf na)
theorem lm_J_px {h : Nat → Nat} {k : Nat} (hh : ∀ f, f < n → lm_J K w n na c ne ad bar h (k + 1) f = lm_J K w n na c ne ad bar h k f) : lm_px K w n na c ne ad bar (lm_J K w n na c ne ad bar h k) := by
  intro a f ha hb hf hq
  have := lm_jc_hit (K := K) (w := w) (n := n) (c := c) (ne := ne) (lm_J K w n na c ne ad bar h k) hb hq na ha
  have h2 : lm_jc K w n c ne ad bar (lm_J K w n na c ne ad bar h k) f na = lm_J K w n na c ne ad bar h k f := hh f hf
  rw [h2] at this
  exact this
def lm_sum (h : Nat → Nat) : Nat → Nat
  | 0 => 0
  | k + 1 => lm_sum h k + h k
theorem lm_sum_le {h g : Nat → Nat} : ∀ {n : Nat}, (∀ f, f < n → h f ≤ g f) → lm_sum h n ≤ lm_sum g n
  | 0, _ => Nat.le_refl _
  | n + 1, hh => by
    have := lm_sum_le (n := n) fun f hf => hh f (by omega)
    have := hh n (by omega)
    unfold lm_sum; omega
theorem lm_sum_lt {h g : Nat → Nat} : ∀ {n : Nat}, (∀ f, f < n → h f ≤ g f) → (∃ f, f < n ∧ h f < g f) → lm_sum h n < lm_sum g n
  | 0, _, ⟨f, hf, _⟩ => by omega
  | n + 1, hh, ⟨f, hf, hl⟩ => by
    have h1 := hh n (by omega)
    have h2 := lm_sum_le (n := n) fun f hf => hh f (by omega)
    unfold lm_sum
    by_cases e : f = n
    · subst e; omega
    · have := lm_sum_lt (n := n) (fun f hf => hh f (by omega)) ⟨f, by omega, hl⟩
      omega
/-- sooner or later all at once changes nothing -/
theorem lm_J_ends (h : Nat → Nat) : ∀ (B k : Nat), lm_sum (lm_J K w n na c ne ad bar h k) n ≤ B → ∃ M, k ≤ M ∧ ∀ f, f < n → lm_J K w n na c ne ad bar h (M + 1) f = lm_J K w n na c ne ad bar h M f := by
  intro B
  induction B with
  | zero =>
    intro k hB
    by_cases q : ∃ f, f < n ∧ lm_J K w n na c ne ad bar h (k + 1) f < lm_J K w n na c ne ad bar h k f
    · have := lm_sum_lt (h := lm_J K w n na c ne ad bar h (k + 1)) (g := lm_J K w n na c ne ad bar h k) (fun f _ => lm_J_step h k f) q
      omega
    · refine ⟨k, Nat.le_refl _, fun f hf => ?_⟩
      have h1 := lm_J_step (K := K) (w := w) (n := n) (na := na) (c := c) (ne := ne) (ad := ad) (bar := bar) h k f
      by_cases z : lm_J K w n na c ne ad bar h (k + 1) f < lm_J K w n na c ne ad bar h k f
      · exact (q ⟨f, hf, z⟩).elim
      · omega
  | succ B ih =>
    intro k hB
    by_cases q : ∃ f, f < n ∧ lm_J K w n na c ne ad bar h (k + 1) f < lm_J K w n na c ne ad bar h k f
    · have := lm_sum_lt (h := lm_J K w n na c ne ad bar h (k + 1)) (g := lm_J K w n na c ne ad bar h k) (fun f _ => lm_J_step h k f) q
      obtain ⟨M, hM, hh⟩ := ih (k + 1) (by omega)
      exact ⟨M, by omega, hh⟩
    · refine ⟨k, Nat.le_refl _, fun f hf => ?_⟩
      have h1 := lm_J_step (K := K) (w := w) (n := n) (na := na) (c := c) (ne := ne) (ad := ad) (bar := bar) h k f
      by_cases z : lm_J K w n na c ne ad bar h (k + 1) f < lm_J K w n na c ne ad bar h k f
      · exact (q ⟨f, hf, z⟩).elim
      · omega
theorem lm_J_after {h : Nat → Nat} {M : Nat} (hM : ∀ f, f < n → lm_J K w n na c ne ad bar h (M + 1) f = lm_J K w n na c ne ad bar h M f) : ∀ j, M ≤ j → ∀ f, f < n → lm_J K w n na c ne ad bar h j f = lm_J K w n na c ne ad bar h M f
  | 0, hj, f, _ => by have : M = 0 := by omega
                      subst this; rfl
  | j + 1, hj, f, hf => by
    by_cases e : M = j + 1
    · subst e; rfl
    · have ih := lm_J_after hM j (by omega)
      have h1 : lm_J K w n na c ne ad bar h (j + 1) f = lm_J K w n na c ne ad bar h (M + 1) f :=
        Nat.le_antisymm (lm_jc_mono (fun g hg => Nat.le_of_eq (ih g hg)) hf na) (lm_jc_mono (fun g hg => Nat.le_of_eq (ih g hg).symm) hf na)
      rw [h1]; exact hM f hf
def lm_cnt (P : Nat → Bool) : Nat → Nat
  | 0 => 0
  | k + 1 => lm_cnt P k + (if P k = true then 1 else 0)
theorem lm_cnt_le (P : Nat → Bool) : ∀ n, lm_cnt P n ≤ n
  | 0 => Nat.le_refl _
  | n + 1 => by have := lm_cnt_le P n; unfold lm_cnt; split <;> omega
theorem lm_cnt_mono {P Q : Nat → Bool} : ∀ {n : Nat}, (∀ f, f < n → P f = true → Q f = true) → lm_cnt P n ≤ lm_cnt Q n
  | 0, _ => Nat.le_refl _
  | n + 1, hh => by
    have h1 := lm_cnt_mono (n := n) fun f hf => hh f (by omega)
    have h2 := hh n (by omega)
    unfold lm_cnt
    by_cases p : P n = true
    · rw [if_pos p, if_pos (h2 p)]; omega
    · rw [if_neg p]; split <;> omega
theorem lm_cnt_lt {P Q : Nat → Bool} : ∀ {n : Nat}, (∀ f, f < n → P f = true → Q f = true) → (∃ f, f < n ∧ P f = false ∧ Q f = true) → lm_cnt P n < lm_cnt Q n
  | 0, _, ⟨f, hf, _⟩ => by omega
  | n + 1, hh, ⟨f, hf, hp, hq⟩ => by
    have h1 := lm_cnt_mono (n := n) fun f hf => hh f (by omega)
    have h2 := hh n (by omega)
    unfold lm_cnt
    by_cases e : f = n
    · subst e
      rw [if_neg (by rw [hp]; decide), if_pos hq]; omega
    · have := lm_cnt_lt (n := n) (fun f hf => hh f (by omega)) ⟨f, by omega, hp, hq⟩
      by_cases p : P n = true
      · rw [if_pos p, if_pos (h2 p)]; omega
      · rw [if_neg p]; split <;> omega
theorem lm_cnt_0 {P : Nat → Bool} : ∀ {n : Nat}, lm_cnt P n = 0 → ∀ f, f < n → P f = false
  | 0, _, f, hf => by omega
  | n + 1, hz, f, hf => by
    unfold lm_cnt at hz
    by_cases p : P n = true
    · rw [if_pos p] at hz; omega
    · rw [if_neg p] at hz
      by_cases e : f = n
      · subst e; simpa using p
      · exact lm_cnt_0 (n := n) (by omega) f (by omega)
/-- where some fact isn't final, one more becomes so in the next round -/
theorem lm_J_one {h : Nat → Nat} {M k : Nat} (hK : ∀ f, f < n → h f ≤ K) (hM : ∀ f, f < n → lm_J K w n na c ne ad bar h (M + 1) f = lm_J K w n na c ne ad bar h M f) (q : ∃ f, f < n ∧ lm_J K w n na c ne ad bar h k f ≠ lm_J K w n na c ne ad bar h M f) :
    ∃ f, f < n ∧ lm_J K w n na c ne ad bar h k f ≠ lm_J K w n na c ne ad bar h M f ∧ lm_J K w n na c ne ad bar h (k + 1) f = lm_J K w n na c ne ad bar h M f := by
  have low : ∀ j f, f < n → lm_J K w n na c ne ad bar h M f ≤ lm_J K w n na c ne ad bar h j f := fun j f hf => by
    by_cases e : j ≤ M
    · exact lm_J_anti h f M e
    · exact Nat.le_of_eq (lm_J_after hM j (by omega) f hf).symm
  obtain ⟨f0, hf0, hq0⟩ := q
  obtain ⟨v, ⟨f1, hf1, hq1, hv1⟩, hvl⟩ := pk_least (fun v => ∃ f, f < n ∧ lm_J K w n na c ne ad bar h k f ≠ lm_J K w n na c ne ad bar h M f ∧ lm_J K w n na c ne ad bar h M f = v) ⟨_, f0, hf0, hq0, rfl⟩
  obtain ⟨j, ⟨f, hf, hq, hv, hj⟩, hjl⟩ := pk_least (fun j => ∃ f, f < n ∧ lm_J K w n na c ne ad bar h k f ≠ lm_J K w n na c ne ad bar h M f ∧ lm_J K w n na c ne ad bar h M f = v ∧ lm_J K w n na c ne ad bar h j f = v) ⟨M, f1, hf1, hq1, hv1, hv1⟩
  have hkj : k < j := by
    by_cases e : j ≤ k
    · exfalso
      have h1 := lm_J_anti (K := K) (w := w) (n := n) (na := na) (c := c) (ne := ne) (ad := ad) (bar := bar) h f k e
      have h2 := low k f hf
      omega
    · omega
  obtain ⟨i, rfl⟩ : ∃ i, j = i + 1 := ⟨j - 1, by omega⟩
  have hi : lm_J K w n na c ne ad bar h i f ≠ v := fun z => hjl i (by omega) ⟨f, hf, hq, hv, z⟩
  have hs := lm_jc_of (K := K) (w := w) (n := n) (c := c) (ne := ne) (ad := ad) (bar := bar) (lm_J K w n na c ne ad bar h i) f na
  have hj' : lm_jc K w n c ne ad bar (lm_J K w n na c ne ad bar h i) f na = v := hj
  rcases hs with hs | ⟨a, ha, hb, hfa, hs⟩
  · exact (hi (hs.symm.trans hj')).elim
  · refine ⟨f, hf, hq, ?_⟩
    have hfin : ∀ g, g < n → (ne a).testBit g = true → lm_J K w n na c ne ad bar h k g = lm_J K w n na c ne ad bar h M g := by
      intro g hg hgb
      by_cases z : lm_J K w n na c ne ad bar h k g = lm_J K w n na c ne ad bar h M g
      · exact z
      · exfalso
        have g0 : lm_J K w n na c ne ad bar h i g ≤ K := Nat.le_trans (lm_J_anti h (i := 0) g i (Nat.zero_le _)) (hK g hg)
        have g1 : lm_J K w n na c ne ad bar h i g ≤ lm_jn K w (lm_J K w n na c ne ad bar h i) (ne a) n := lm_jn_ge hg hgb g0
        have g2 := low i g hg
        have g3 : ¬ lm_J K w n na c ne ad bar h M g < v := fun y => hvl _ y ⟨g, hg, z, rfl⟩
        exact hjl i (by omega) ⟨g, hg, z, by omega, by omega⟩
    have e1 : lm_jn K w (lm_J K w n na c ne ad bar h k) (ne a) n = lm_jn K w (lm_J K w n na c ne ad bar h M) (ne a) n := lm_jn_congr hfin
    have e2 : lm_jn K w (lm_J K w n na c ne ad bar h M) (ne a) n ≤ lm_jn K w (lm_J K w n na c ne ad bar h i) (ne a) n := lm_jn_mono fun g hg _ => low i g hg
    have e3 : lm_J K w n na c ne ad bar h (k + 1) f ≤ c a + lm_jn K w (lm_J K w n na c ne ad bar h k) (ne a) n := lm_jc_hit _ hb hfa na ha
    have e4 := low (k + 1) f hf
    omega
/-- n rounds are enough -/
theorem lm_J_n {h : Nat → Nat} (hK : ∀ f, f < n → h f ≤ K) : lm_px K w n na c ne ad bar (lm_J K w n na c ne ad bar h n) := by
  obtain ⟨M, -, hM⟩ := lm_J_ends (K := K) (w := w) (n := n) (na := na) (c := c) (ne := ne) (ad := ad) (bar := bar) h (lm_sum h n) 0 (Nat.le_refl _)
  have low : ∀ j f, f < n → lm_J K w n na c ne ad bar h M f ≤ lm_J K w n na c ne ad bar h j f := fun j f hf => by
    by_cases e : j ≤ M
    · exact lm_J_anti h f M e
    · exact Nat.le_of_eq (lm_J_after hM j (by omega) f hf).symm
  have count : ∀ k, lm_cnt (fun f => decide (lm_J K w n na c ne ad bar h k f ≠ lm_J K w n na c ne ad bar h M f)) n ≤ n - k := by
    intro k
    induction k with
    | zero => exact lm_cnt_le _ _
    | succ k ih =>
      by_cases q : ∃ f, f < n ∧ lm_J K w n na c ne ad bar h k f ≠ lm_J K w n na c ne ad bar h M f
      · obtain ⟨f, hf, h1, h2⟩ := lm_J_one hK hM q
        have := lm_cnt_lt (P := fun f => decide (lm_J K w n na c ne ad bar h (k + 1) f ≠ lm_J K w n na c ne ad bar h M f)) (Q := fun f => decide (lm_J K w n na c ne ad bar h k f ≠ lm_J K w n na c ne ad bar h M f)) (n := n) (fun g hg hp => by
          have z : lm_J K w n na c ne ad bar h (k + 1) g ≠ lm_J K w n na c ne ad bar h M g := by simpa using hp
          have y1 := low (k + 1) g hg
          have y2 := lm_J_step (K := K) (w := w) (n := n) (na := na) (c := c) (ne := ne) (ad := ad) (bar := bar) h k g
          exact decide_eq_true (by omega)) ⟨f, hf, by simp [h2], by simp [h1]⟩
        omega
      · have z : lm_cnt (fun f => decide (lm_J K w n na c ne ad bar h (k + 1) f ≠ lm_J K w n na c ne ad bar h M f)) n ≤ lm_cnt (fun _ => false) n := lm_cnt_mono fun g hg hp => by
          have z : lm_J K w n na c ne ad bar h (k + 1) g ≠ lm_J K w n na c ne ad bar h M g := by simpa using hp
          have y0 : lm_J K w n na c ne ad bar h k g = lm_J K w n na c ne ad bar h M g := by
            by_cases y : lm_J K w n na c ne ad bar h k g = lm_J K w n na c ne ad bar h M g
            · exact y
            · exact (q ⟨g, hg, y⟩).elim
          have y1 := low (k + 1) g hg
          have y2 := lm_J_step (K := K) (w := w) (n := n) (na := na) (c := c) (ne := ne) (ad := ad) (bar := bar) h k g
          omega
        have z2 : ∀ n, lm_cnt (fun _ => false) n = 0 := fun n => by induction n with | zero => rfl | succ n ih => simp [lm_cnt, ih]
        rw [z2] at z
        omega
  have hz := lm_cnt_0 (Nat.le_zero.mp (by have := count n; rw [Nat.sub_self] at this; exact this))
  have heq : ∀ f, f < n → lm_J K w n na c ne ad bar h n f = lm_J K w n na c ne ad bar h M f := fun f hf => by
    have := hz f hf
    simpa using this
  intro a f ha hb hf hq
  have h1 := lm_J_px hM a f ha hb hf hq
  rw [heq f hf, lm_jn_congr (fun g hg _ => heq g hg)]
  exact h1
/-- n rounds in turn: a solution, and the greatest below the start -/
theorem lm_it_n {h : Nat → Nat} (hK : ∀ f, f < n → h f ≤ K) : lm_px K w n na c ne ad bar (lm_it K w n na c ne ad bar h n) := by
  have hp := lm_J_n (K := K) (w := w) (na := na) (c := c) (ne := ne) (ad := ad) (bar := bar) hK
  have heq : ∀ f, f < n → lm_it K w n na c ne ad bar h n f = lm_J K w n na c ne ad bar h n f := fun f hf =>
    Nat.le_antisymm (lm_it_J h n f hf) (lm_it_px hp (fun g hg => lm_J_anti h (i := 0) g n (Nat.zero_le _)) n f hf)
  intro a f ha hb hf hq
  have h1 := hp a f ha hb hf hq
  rw [heq f hf, lm_jn_congr (fun g hg _ => heq g hg)]
  exact h1
/-- what is at a solution is left as it is by every further round -/
theorem lm_it_stay {h : Nat → Nat} {k : Nat} (hp : lm_px K w n na c ne ad bar (lm_it K w n na c ne ad bar h k)) : ∀ j f, f < n → lm_it K w n na c ne ad bar h (k + j) f = lm_it K w n na c ne ad bar h k f
  | 0, _, _ => rfl
  | j + 1, f, hf => by
    have ih := lm_it_stay hp j
    refine Nat.le_antisymm (Nat.le_trans (lm_rd_le _ _ _) (Nat.le_of_eq (ih f hf))) ?_
    exact lm_rd_px hp (fun g hg => Nat.le_of_eq (ih g hg).symm) na (Nat.le_refl _) f hf
end LM
end
section
/-! Levels: what is below the cap is small; two caps give the same numbers. -/
def lm_fs (K : Nat) (h : Nat → Nat) : Nat → Nat
  | 0 => 0
  | k + 1 => lm_fs K h k + (if h k < K then h k else 0)
def lm_fc (K : Nat) (h : Nat → Nat) : Nat → Nat
  | 0 => 0
  | k + 1 => lm_fc K h k + (if h k < K then 1 else 0)
theorem lm_fs_congr {K : Nat} {h g : Nat → Nat} : ∀ {n : Nat}, (∀ f, f < n → h f = g f) → lm_fs K h n = lm_fs K g n ∧ lm_fc K h n = lm_fc K g n
  | 0, _ => ⟨rfl, rfl⟩
  | n + 1, hh => by
    obtain ⟨h1, h2⟩ := lm_fs_congr (n := n) fun f hf => hh f (by omega)
    have h3 := hh n (by omega)
    unfold lm_fs lm_fc
    rw [h1, h2, h3]
    exact ⟨rfl, rfl⟩
theorem lm_fc_le (K : Nat) (h : Nat → Nat) : ∀ n, lm_fc K h n ≤ n
  | 0 => Nat.le_refl _
  | n + 1 => by have := lm_fc_le K h n; unfold lm_fc; split <;> omega
theorem lm_fs_ge {K : Nat} {h : Nat → Nat} : ∀ {n f : Nat}, f < n → h f < K → h f ≤ lm_fs K h n
  | 0, f, hf, _ => by omega
  | n + 1, f, hf, hk => by
    unfold lm_fs
    by_cases e : f = n
    · subst e; rw [if_pos hk]; omega
    · have := lm_fs_ge (n := n) (f := f) (by omega) hk
      omega
theorem lm_jp_fs {K : Nat} {w : Bool} {h : Nat → Nat} {S : Nat} : ∀ {n : Nat}, (∀ f, f < n → S.testBit f = true → h f < K) → lm_jp w h S n ≤ lm_fs K h n
  | 0, _ => Nat.le_refl _
  | n + 1, hh => by
    have ih := lm_jp_fs (w := w) (n := n) fun f hf hb => hh f (by omega) hb
    unfold lm_jp lm_fs
    by_cases hb : S.testBit n = true
    · have h1 := hh n (by omega) hb
      simp only [hb, if_true, h1]
      cases w with
      | true => simp only [if_true]; omega
      | false => simp only [Bool.false_eq_true, if_false]; omega
    · rw [if_neg hb]
      omega
theorem lm_fs_set {K f0 : Nat} {h g : Nat → Nat} (he : ∀ f, f ≠ f0 → g f = h f) (hg : g f0 < K) : ∀ {n : Nat}, f0 < n → lm_fs K g n + (if h f0 < K then h f0 else 0) = lm_fs K h n + g f0 ∧ lm_fc K g n = lm_fc K h n + (if h f0 < K then 0 else 1)
  | 0, hf => by omega
  | n + 1, hf => by
    unfold lm_fs lm_fc
    by_cases e : f0 = n
    · subst e
      obtain ⟨h1, h2⟩ := lm_fs_congr (K := K) (h := g) (g := h) (n := f0) fun f hf => he f (by omega)
      rw [h1, h2, if_pos hg, if_pos hg]
      split <;> omega
    · obtain ⟨h1, h2⟩ := lm_fs_set he hg (n := n) (by omega)
      have h3 := he n (fun z => e z.symm)
      rw [h3, h2]
      refine ⟨?_, ?_⟩
      · generalize (if h f0 < K then h f0 else 0) = x at *
        generalize (if h n < K then h n else 0) = y at *
        omega
      · generalize (if h f0 < K then 0 else 1) = x at *
        generalize (if h n < K then 1 else 0) = y at *
        omega
theorem lm_bd_set {K C f0 n : Nat} {h g : Nat → Nat} (hf : f0 < n) (he : ∀ f, f ≠ f0 → g f = h f) (hg : g f0 < K) (hl : g f0 < h f0) (hx : g f0 ≤ C * 2 ^ lm_fc K h n) (hb : lm_fs K h n + C ≤ C * 2 ^ lm_fc K h n) :
    lm_fs K g n + C ≤ C * 2 ^ lm_fc K g n ∧ lm_fc K h n ≤ lm_fc K g n := by
  obtain ⟨h1, h2⟩ := lm_fs_set he hg hf
  by_cases q : h f0 < K
  · rw [if_pos q] at h1 h2
    rw [h2]
    simp only [Nat.add_zero]
    exact ⟨by omega, Nat.le_refl _⟩
  · rw [if_neg q] at h1 h2
    rw [h2]
    refine ⟨?_, by omega⟩
    have e : C * 2 ^ (lm_fc K h n + 1) = C * 2 ^ lm_fc K h n + C * 2 ^ lm_fc K h n := by
      rw [Nat.pow_succ, ← Nat.mul_assoc, Nat.mul_two]
    rw [e]
    omega
section LN
variable {K : Nat} {w : Bool} {n na C : Nat} {c ne ad : Nat → Nat} {bar : Nat → Bool}
theorem lm_act_bd {a : Nat} {h : Nat → Nat} (hc : c a ≤ C) (hK : ∀ f, f < n → h f ≤ K) (hb : lm_fs K h n + C ≤ C * 2 ^ lm_fc K h n) : lm_fs K (lm_act K w n c ne ad a h) n + C ≤ C * 2 ^ lm_fc K (lm_act K w n c ne ad a h) n := by
  have key : ∀ m, m ≤ n → lm_fs K (fun f => if f < m then lm_act K w n c ne ad a h f else h f) n + C ≤ C * 2 ^ lm_fc K (fun f => if f < m then lm_act K w n c ne ad a h f else h f) n ∧ lm_fc K h n ≤ lm_fc K (fun f => if f < m then lm_act K w n c ne ad a h f else h f) n := by
    intro m
    induction m with
    | zero =>
      intro _
      have e : (fun f => if f < 0 then lm_act K w n c ne ad a h f else h f) = h := by funext f; simp
      rw [e]
      exact ⟨hb, Nat.le_refl _⟩
    | succ m ih =>
      intro hm
      obtain ⟨i1, i2⟩ := ih (by omega)
      by_cases q : (ad a).testBit m = true ∧ c a + lm_jn K w h (ne a) n < h m
      · have hx : lm_act K w n c ne ad a h m = c a + lm_jn K w h (ne a) n := by unfold lm_act; rw [if_pos q]
        have hKm := hK m (by omega)
        have hjK : lm_jn K w h (ne a) n < K := by omega
        have hjp : lm_jp w h (ne a) n = lm_jn K w h (ne a) n := by unfold lm_jn at hjK ⊢; omega
        have hjf : lm_jp w h (ne a) n ≤ lm_fs K h n := lm_jp_fs fun f hf hb => by
          have := lm_jp_ge (w := w) (h := h) hf hb
          omega
        have hp : 2 ^ lm_fc K h n ≤ 2 ^ lm_fc K (fun f => if f < m then lm_act K w n c ne ad a h f else h f) n := Nat.pow_le_pow_right (by omega) i2
        have hp2 := Nat.mul_le_mul_left C hp
        obtain ⟨r1, r2⟩ := lm_bd_set (K := K) (C := C) (f0 := m) (n := n) (h := fun f => if f < m then lm_act K w n c ne ad a h f else h f) (g := fun f => if f < m + 1 then lm_act K w n c ne ad a h f else h f) (by omega)
          (fun f hf => by
            show (if f < m + 1 then lm_act K w n c ne ad a h f else h f) = (if f < m then lm_act K w n c ne ad a h f else h f)
            by_cases z : f < m
            · rw [if_pos z, if_pos (show f < m + 1 by omega)]
            · rw [if_neg z, if_neg (show ¬ f < m + 1 by omega)])
          (by simp [hx]; omega) (by simp [hx]; omega) (by simp only [Nat.lt_succ_self, if_true, hx]; omega) i1
        exact ⟨r1, by omega⟩
      · have e : (fun f => if f < m + 1 then lm_act K w n c ne ad a h f else h f) = (fun f => if f < m then lm_act K w n c ne ad a h f else h f) := by
          funext f
          by_cases z : f < m
          · simp [z, (by omega : f < m + 1)]
          · by_cases z2 : f = m
            · subst z2
              have : lm_act K w n c ne ad a h f = h f := by unfold lm_act; rw [if_neg q]
              simp [this]
            · rw [if_neg z, if_neg (show ¬ f < m + 1 by omega)]
        rw [e]
        exact ⟨i1, i2⟩
  obtain ⟨k1, -⟩ := key n (Nat.le_refl _)
  obtain ⟨c1, c2⟩ := lm_fs_congr (K := K) (h := fun f => if f < n then lm_act K w n c ne ad a h f else h f) (g := lm_act K w n c ne ad a h) (n := n) fun f hf => by simp [hf]
  rw [c1, c2] at k1
  exact k1
theorem lm_rd_bd {h : Nat → Nat} (hc : ∀ a, a < na → c a ≤ C) (hK : ∀ f, f < n → h f ≤ K) (hb : lm_fs K h n + C ≤ C * 2 ^ lm_fc K h n) : ∀ k, k ≤ na → lm_fs K (lm_rd K w n c ne ad bar h k) n + C ≤ C * 2 ^ lm_fc K (lm_rd K w n c ne ad bar h k) n
  | 0, _ => hb
  | k + 1, hk => by
    have ih := lm_rd_bd hc hK hb k (by omega)
    unfold lm_rd
    split
    · exact ih
    · exact lm_act_bd (hc k (by omega)) (fun f hf => Nat.le_trans (lm_rd_le _ _ _) (hK f hf)) ih
theorem lm_it_bd {h : Nat → Nat} (hc : ∀ a, a < na → c a ≤ C) (hK : ∀ f, f < n → h f ≤ K) (hb : lm_fs K h n + C ≤ C * 2 ^ lm_fc K h n) : ∀ k, lm_fs K (lm_it K w n na c ne ad bar h k) n + C ≤ C * 2 ^ lm_fc K (lm_it K w n na c ne ad bar h k) n
  | 0 => hb
  | k + 1 => lm_rd_bd hc (fun f hf => Nat.le_trans (lm_it_le _ _ _) (hK f hf)) (lm_it_bd hc hK hb k) na (Nat.le_refl _)
theorem lm_i0_le (K s f : Nat) : lm_i0 K s f ≤ K := by unfold lm_i0; split <;> omega
theorem lm_i0_bd {K s C : Nat} (n : Nat) : lm_fs K (lm_i0 K s) n + C ≤ C * 2 ^ lm_fc K (lm_i0 K s) n := by
  have h0 : ∀ n, lm_fs K (lm_i0 K s) n = 0 := fun n => by
    induction n with
    | zero => rfl
    | succ n ih =>
      unfold lm_fs
      rw [ih]
      unfold lm_i0
      by_cases q : s.testBit n = true
      · simp [q]
      · simp [q]
  rw [h0, Nat.zero_add]
  have := Nat.mul_le_mul_left C (Nat.one_le_two_pow (n := lm_fc K (lm_i0 K s) n))
  omega
/-- what is below the cap adds up to less than C * 2^n -/
theorem lm_it_fs {s : Nat} (hc : ∀ a, a < na → c a ≤ C) (k : Nat) : lm_fs K (lm_it K w n na c ne ad bar (lm_i0 K s) k) n + C ≤ C * 2 ^ n := by
  have h1 := lm_it_bd (w := w) (ne := ne) (ad := ad) (bar := bar) hc (fun f _ => lm_i0_le K s f) (lm_i0_bd (C := C) n) k
  have h2 := Nat.mul_le_mul_left C (Nat.pow_le_pow_right (n := 2) (by omega) (lm_fc_le K (lm_it K w n na c ne ad bar (lm_i0 K s) k) n))
  omega
/-- a solution under one cap is one under another -/
theorem lm_cross {K1 K2 : Nat} {g : Nat → Nat} (hc : ∀ a, a < na → c a ≤ C) (hp : lm_px K2 w n na c ne ad bar g) (h1 : C + lm_fs K2 g n < K1) (h2 : C + lm_fs K2 g n < K2) : lm_px K1 w n na c ne ad bar (fun f => if g f < K2 then g f else K1) := by
  intro a f ha hb hf hq
  have hpa := hp a f ha hb hf hq
  by_cases q : ∃ e, e < n ∧ (ne a).testBit e = true ∧ ¬ g e < K2
  · obtain ⟨e, he, heb, hge⟩ := q
    have h3 : K1 ≤ lm_jn K1 w (fun f => if g f < K2 then g f else K1) (ne a) n := by
      have := lm_jn_ge (K := K1) (w := w) (h := fun f => if g f < K2 then g f else K1) he heb (by simp [hge])
      simpa [hge] using this
    have h4 : (if g f < K2 then g f else K1) ≤ K1 := by
      split
      · next z => have := lm_fs_ge hf z; omega
      · exact Nat.le_refl _
    show (if g f < K2 then g f else K1) ≤ _
    omega
  · have hall : ∀ e, e < n → (ne a).testBit e = true → g e < K2 := fun e he heb => by
      by_cases z : g e < K2
      · exact z
      · exact (q ⟨e, he, heb, z⟩).elim
    have h3 : lm_jp w (fun f => if g f < K2 then g f else K1) (ne a) n = lm_jp w g (ne a) n := lm_jp_congr fun e he heb => by simp [hall e he heb]
    have h4 := lm_jp_fs (w := w) hall
    have h5 := hc a ha
    have h6 : lm_jn K2 w g (ne a) n = lm_jp w g (ne a) n := by unfold lm_jn; omega
    have h7 : lm_jn K1 w (fun f => if g f < K2 then g f else K1) (ne a) n = lm_jp w g (ne a) n := by unfold lm_jn; rw [h3]; omega
    rw [h6] at hpa
    show (if g f < K2 then g f else K1) ≤ c a + lm_jn K1 w (fun f => if g f < K2 then g f else K1) (ne a) n
    rw [h7, if_pos (by omega)]
    exact hpa
/-- two runs with two caps that both came to a solution: the same numbers -/
theorem lm_same {K1 K2 s k1 k2 : Nat} (hc : ∀ a, a < na → c a ≤ C) (hC1 : C * 2 ^ n < K1) (hC2 : C * 2 ^ n < K2)
    (hp1 : lm_px K1 w n na c ne ad bar (lm_it K1 w n na c ne ad bar (lm_i0 K1 s) k1)) (hp2 : lm_px K2 w n na c ne ad bar (lm_it K2 w n na c ne ad bar (lm_i0 K2 s) k2)) :
    ∀ f, f < n → (lm_it K1 w n na c ne ad bar (lm_i0 K1 s) k1 f < K1 ↔ lm_it K2 w n na c ne ad bar (lm_i0 K2 s) k2 f < K2) ∧ (lm_it K1 w n na c ne ad bar (lm_i0 K1 s) k1 f < K1 → lm_it K1 w n na c ne ad bar (lm_i0 K1 s) k1 f = lm_it K2 w n na c ne ad bar (lm_i0 K2 s) k2 f) := by
  have b1 := lm_it_fs (K := K1) (w := w) (n := n) (s := s) (ne := ne) (ad := ad) (bar := bar) hc k1
  have b2 := lm_it_fs (K := K2) (w := w) (n := n) (s := s) (ne := ne) (ad := ad) (bar := bar) hc k2
  have i1 : ∀ f, lm_it K1 w n na c ne ad bar (lm_i0 K1 s) k1 f ≤ lm_i0 K1 s f := fun f => lm_it_le _ _ _
  have i2 : ∀ f, lm_it K2 w n na c ne ad bar (lm_i0 K2 s) k2 f ≤ lm_i0 K2 s f := fun f => lm_it_le _ _ _
  have x1 := lm_it_px (h := lm_i0 K1 s) (lm_cross (K1 := K1) hc hp2 (by omega) (by omega)) (fun f hf => by
    have := i2 f
    by_cases q : s.testBit f = true
    · have z : lm_i0 K2 s f = 0 := by unfold lm_i0; rw [if_pos q]
      have z0 : lm_it K2 w n na c ne ad bar (lm_i0 K2 s) k2 f = 0 := by omega
      rw [z0, if_pos (by omega)]; omega
    · have z : lm_i0 K1 s f = K1 := by unfold lm_i0; rw [if_neg q]
      rw [z]
      split
      · next y => have := lm_fs_ge hf y; omega
      · exact Nat.le_refl _) k1
  have x2 := lm_it_px (h := lm_i0 K2 s) (lm_cross (K1 := K2) hc hp1 (by omega) (by omega)) (fun f hf => by
    have := i1 f
    by_cases q : s.testBit f = true
    · have z : lm_i0 K1 s f = 0 := by unfold lm_i0; rw [if_pos q]
      have z0 : lm_it K1 w n na c ne ad bar (lm_i0 K1 s) k1 f = 0 := by omega
      rw [z0, if_pos (by omega)]; omega
    · have z : lm_i0 K2 s f = K2 := by unfold lm_i0; rw [if_neg q]
      rw [z]
      split
      · next y => have := lm_fs_ge hf y; omega
      · exact Nat.le_refl _) k2
  intro f hf
  have y1 := x1 f hf
  have y2 := x2 f hf
  generalize lm_it K1 w n na c ne ad bar (lm_i0 K1 s) k1 f = u at *
  generalize lm_it K2 w n na c ne ad bar (lm_i0 K2 s) k2 f = v at *
  by_cases p1 : u < K1
  · by_cases p2 : v < K2
    · rw [if_pos p2] at y1; rw [if_pos p1] at y2
      exact ⟨⟨fun _ => p2, fun _ => p1⟩, fun _ => by omega⟩
    · rw [if_neg p2] at y1; omega
  · by_cases p2 : v < K2
    · rw [if_neg p1] at y2; omega
    · exact ⟨⟨fun z => absurd z p1, fun z => absurd z p2⟩, fun z => absurd z p1⟩
end LN
end
section
/-! Ways over states, as numbers alone. can a s, af a s: an action's test and outcome; co a: its cost; na actions; states below N. -/
def gw_P (na : Nat) (can : Nat → Nat → Bool) (af : Nat → Nat → Nat) (co : Nat → Nat) : Nat → Nat → Nat → Nat → Prop
  | 0, s, t, c => s = t ∧ c = 0
  | k + 1, s, t, c => ∃ a c', a < na ∧ can a s = true ∧ gw_P na can af co k (af a s) t c' ∧ c = co a + c'
def gw_R (na : Nat) (can : Nat → Nat → Bool) (af : Nat → Nat → Nat) (co : Nat → Nat) (s t c : Nat) : Prop := ∃ k, gw_P na can af co k s t c
/-- order o and costs d of the n states that come from s0 -/
def gw_ok (N na : Nat) (can : Nat → Nat → Bool) (af : Nat → Nat → Nat) (co : Nat → Nat) (s0 n : Nat) (o d : Nat → Nat) : Prop :=
  0 < n ∧ o 0 = s0 ∧ d 0 = 0 ∧ (∀ i, i < n → o i < N) ∧ (∀ i j, i < n → j < n → o i = o j → i = j) ∧ (∀ i j, i ≤ j → j < n → d i ≤ d j) ∧ (∀ i, i < n → gw_R na can af co s0 (o i) (d i)) ∧
    (∀ i a, i < n → a < na → can a (o i) = true → ∃ j, j < n ∧ o j = af a (o i) ∧ d j ≤ d i + co a)
section GR
variable {N na : Nat} {can : Nat → Nat → Bool} {af : Nat → Nat → Nat} {co : Nat → Nat}
theorem gw_R_0 (s : Nat) : gw_R na can af co s s 0 := ⟨0, rfl, rfl⟩
theorem gw_R_l {s t c a : Nat} (ha : a < na) (hc : can a s = true) (h : gw_R na can af co (af a s) t c) : gw_R na can af co s t (co a + c) := by
  obtain ⟨k, h⟩ := h
  exact ⟨k + 1, a, c, ha, hc, h, rfl⟩
theorem gw_P_r {a : Nat} (ha : a < na) : ∀ {k s t c : Nat}, can a t = true → gw_P na can af co k s t c → gw_P na can af co (k + 1) s (af a t) (c + co a)
  | 0, s, t, c, hc, h => by
    obtain ⟨rfl, rfl⟩ := h
    exact ⟨a, 0, ha, hc, ⟨rfl, rfl⟩, by omega⟩
  | k + 1, s, t, c, hc, h => by
    obtain ⟨b, c', hb, hcb, h1, rfl⟩ := h
    exact ⟨b, c' + co a, hb, hcb, gw_P_r ha hc h1, by omega⟩
theorem gw_R_r {s t c a : Nat} (ha : a < na) (hc : can a t = true) (h : gw_R na can af co s t c) : gw_R na can af co s (af a t) (c + co a) := by
  obtain ⟨k, h⟩ := h
  exact ⟨k + 1, gw_P_r ha hc h⟩
theorem gw_R_trans {s t u c d : Nat} (h : gw_R na can af co s t c) (g : gw_R na can af co t u d) : gw_R na can af co s u (c + d) := by
  obtain ⟨k, h⟩ := h
  induction k generalizing s c with
  | zero => obtain ⟨rfl, rfl⟩ := h; rw [Nat.zero_add]; exact g
  | succ k ih =>
    obtain ⟨a, c', ha, hc, h1, rfl⟩ := h
    have := gw_R_l ha hc (ih h1)
    rw [Nat.add_assoc]; exact this
/-- whatever comes from s0 stands in the order, and at no greater cost -/
theorem gw_ok_all {s0 n : Nat} {o d : Nat → Nat} (h : gw_ok N na can af co s0 n o d) : ∀ {k i t c : Nat}, i < n → gw_P na can af co k (o i) t c → ∃ j, j < n ∧ o j = t ∧ d j ≤ d i + c
  | 0, i, t, c, hi, hp => by
    obtain ⟨rfl, rfl⟩ := hp
    exact ⟨i, hi, rfl, by omega⟩
  | k + 1, i, t, c, hi, hp => by
    obtain ⟨a, c', ha, hc, hp, rfl⟩ := hp
    obtain ⟨j, hj, he, hd⟩ := h.2.2.2.2.2.2.2 i a hi ha hc
    rw [← he] at hp
    obtain ⟨j', hj', he', hd'⟩ := gw_ok_all h hj hp
    exact ⟨j', hj', he', by omega⟩
theorem gw_ok_reach {s0 n t c : Nat} {o d : Nat → Nat} (h : gw_ok N na can af co s0 n o d) (hr : gw_R na can af co s0 t c) : ∃ j, j < n ∧ o j = t ∧ d j ≤ c := by
  obtain ⟨k, hp⟩ := hr
  have h0 := h.1
  rw [← h.2.1] at hp
  obtain ⟨j, h1, h2, h3⟩ := gw_ok_all h h0 hp
  rw [h.2.2.1] at h3
  exact ⟨j, h1, h2, by omega⟩
/-- the cost in the order is the least -/
theorem gw_ok_least {s0 n i c : Nat} {o d : Nat → Nat} (h : gw_ok N na can af co s0 n o d) (hi : i < n) (hr : gw_R na can af co s0 (o i) c) : d i ≤ c := by
  obtain ⟨j, h1, h2, h3⟩ := gw_ok_reach h hr
  rw [h.2.2.2.2.1 i j hi h1 h2.symm]
  exact h3
/-- different numbers below N: no more than N of them -/
theorem gw_pigeon : ∀ (N : Nat) {n : Nat} {o : Nat → Nat}, (∀ i, i < n → o i < N) → (∀ i j, i < n → j < n → o i = o j → i = j) → n ≤ N
  | 0, n, o, h1, _ => by
    by_cases e : n = 0
    · omega
    · have := h1 0 (by omega); omega
  | N + 1, n, o, h1, h2 => by
    by_cases q : ∃ k, k < n ∧ o k = N
    · obtain ⟨k, hk, hkN⟩ := q
      have := gw_pigeon N (n := n - 1) (o := fun i => if i = k then o (n - 1) else o i) (fun i hi => by
          show (if i = k then o (n - 1) else o i) < N
          split
          · next e =>
            have a1 := h1 (n - 1) (by omega)
            have a2 : o (n - 1) ≠ N := fun z => by
              have := h2 (n - 1) k (by omega) hk (z.trans hkN.symm)
              omega
            omega
          · next e =>
            have a1 := h1 i (by omega)
            have a2 : o i ≠ N := fun z => e (h2 i k (by omega) hk (z.trans hkN.symm))
            omega) (fun i j hi hj e => by
          have e : (if i = k then o (n - 1) else o i) = (if j = k then o (n - 1) else o j) := e
          by_cases ei : i = k
          · by_cases ej : j = k
            · omega
            · rw [if_pos ei, if_neg ej] at e
              have := h2 (n - 1) j (by omega) (by omega) e
              omega
          · by_cases ej : j = k
            · rw [if_neg ei, if_pos ej] at e
              have := h2 i (n - 1) (by omega) (by omega) e
              omega
            · rw [if_neg ei, if_neg ej] at e
              exact h2 i j (by omega) (by omega) e)
      omega
    · have := gw_pigeon N (n := n) (o := o) (fun i hi => by
        have a1 := h1 i hi
        have a2 : o i ≠ N := fun z => q ⟨i, hi, z⟩
        omega) h2
      omega
/-- as many different numbers below N as there are: each of them -/
theorem gw_full {N : Nat} {o : Nat → Nat} (h1 : ∀ i, i < N → o i < N) (h2 : ∀ i j, i < N → j < N → o i = o j → i = j) {t : Nat} (ht : t < N) : ∃ i, i < N ∧ o i = t := by
  by_cases q : ∃ i, i < N ∧ o i = t
  · exact q
  · exfalso
    have := gw_pigeon N (n := N + 1) (o := fun i => if i = N then t else o i) (fun i hi => by
      show (if i = N then t else o i) < N
      split
      · exact ht
      · exact h1 i (by omega)) (fun i j hi hj e => by
      have e : (if i = N then t else o i) = (if j = N then t else o j) := e
      by_cases ei : i = N
      · by_cases ej : j = N
        · omega
        · rw [if_pos ei, if_neg ej] at e
          exact (q ⟨j, by omega, e.symm⟩).elim
      · by_cases ej : j = N
        · rw [if_neg ei, if_pos ej] at e
          exact (q ⟨i, by omega, e⟩).elim
        · rw [if_neg ei, if_neg ej] at e
          exact h2 i j (by omega) (by omega) e)
    omega
/-- how many numbers below N stand in the order -/
theorem gw_count : ∀ (N : Nat) {n : Nat} {o : Nat → Nat}, (∀ i, i < n → o i < N) → (∀ i j, i < n → j < n → o i = o j → i = j) → ∀ {P : Nat → Bool}, (∀ s, s < N → (P s = true ↔ ∃ i, i < n ∧ o i = s)) → lm_cnt P N = n
  | 0, n, o, h1, _, P, _ => by
    by_cases e : n = 0
    · subst e; rfl
    · have := h1 0 (by omega); omega
  | N + 1, n, o, h1, h2, P, hP => by
    unfold lm_cnt
    by_cases q : ∃ k, k < n ∧ o k = N
    · obtain ⟨k, hk, hkN⟩ := q
      rw [if_pos ((hP N (by omega)).mpr ⟨k, hk, hkN⟩)]
      have hne : ∀ i, i < n → i ≠ k → o i ≠ N := fun i hi e z => e (h2 i k hi hk (z.trans hkN.symm))
      have := gw_count N (n := n - 1) (o := fun i => if i = k then o (n - 1) else o i) (fun i hi => by
          show (if i = k then o (n - 1) else o i) < N
          split
          · next e =>
            have a1 := h1 (n - 1) (by omega)
            have a2 := hne (n - 1) (by omega) (by omega)
            omega
          · next e =>
            have a1 := h1 i (by omega)
            have a2 := hne i (by omega) e
            omega) (fun i j hi hj e => by
          have e : (if i = k then o (n - 1) else o i) = (if j = k then o (n - 1) else o j) := e
          by_cases ei : i = k
          · by_cases ej : j = k
            · omega
            · rw [if_pos ei, if_neg ej] at e
              have := h2 (n - 1) j (by omega) (by omega) e
              omega
          · by_cases ej : j = k
            · rw [if_neg ei, if_pos ej] at e
              have := h2 i (n - 1) (by omega) (by omega) e
              omega
            · rw [if_neg ei, if_neg ej] at e
              exact h2 i j (by omega) (by omega) e) (P := P) (fun s hs => by
          rw [hP s (by omega)]
          constructor
          · rintro ⟨i, hi, hs2⟩
            have hik : i ≠ k := fun z => by rw [z, hkN] at hs2; omega
            by_cases z : i = n - 1
            · exact ⟨k, by omega, by simp [← z, hs2]⟩
            · exact ⟨i, by omega, by simp [hik, hs2]⟩
          · rintro ⟨i, hi, hs2⟩
            by_cases z : i = k
            · exact ⟨n - 1, by omega, by simpa [z] using hs2⟩
            · exact ⟨i, by omega, by simpa [z] using hs2⟩)
      omega
    · have hPN : P N = false := by
        cases hp : P N with
        | false => rfl
        | true => exact (q ((hP N (by omega)).mp hp)).elim
      rw [if_neg (by rw [hPN]; decide)]
      have := gw_count N (n := n) (o := o) (fun i hi => by
        have a1 := h1 i hi
        have a2 : o i ≠ N := fun z => q ⟨i, hi, z⟩
        omega) h2 (P := P) (fun s hs => hP s (by omega))
      omega
end GR
end
section
/-! The cheapest way to a met state: what is dear (the reference's numbers), and the way on (the class's). -/
def gw_dear (N na : Nat) (can : Nat → Nat → Bool) (af : Nat → Nat → Nat) (co : Nat → Nat) (met : Nat → Bool) (E : Nat) (dear : Nat → Nat) : Prop :=
  (∀ s, s < N → dear s ≤ E) ∧ (∀ s, s < N → dear s < E → ∃ t, met t = true ∧ gw_R na can af co s t (dear s)) ∧ (∀ s, s < N → met s = true → dear s = 0) ∧
    (∀ s a, s < N → a < na → can a s = true → dear s ≤ co a + dear (af a s))
/-- the first of the numbers below n with P, or n -/
def gw_find (P : Nat → Bool) : Nat → Nat
  | 0 => 0
  | n + 1 => if gw_find P n < n then gw_find P n else if P n = true then n else n + 1
theorem gw_find_le (P : Nat → Bool) : ∀ n, gw_find P n ≤ n
  | 0 => Nat.le_refl _
  | n + 1 => by
    have := gw_find_le P n
    unfold gw_find
    split
    · omega
    · split <;> omega
theorem gw_find_spec (P : Nat → Bool) : ∀ n, (∀ i, i < gw_find P n → P i = false) ∧ (gw_find P n < n → P (gw_find P n) = true)
  | 0 => ⟨fun i h => by simp [gw_find] at h, fun h => by simp [gw_find] at h⟩
  | n + 1 => by
    obtain ⟨h1, h2⟩ := gw_find_spec P n
    have h3 := gw_find_le P n
    unfold gw_find
    by_cases q : gw_find P n < n
    · rw [if_pos q]
      exact ⟨h1, fun _ => h2 q⟩
    · have e : gw_find P n = n := by omega
      rw [if_neg q]
      rw [e] at h1
      by_cases p : P n = true
      · rw [if_pos p]
        exact ⟨h1, fun _ => p⟩
      · rw [if_neg p]
        refine ⟨fun i hi => ?_, fun h => by omega⟩
        by_cases z : i = n
        · subst z; simpa using p
        · exact h1 i (by omega)
theorem gw_find_eq {P : Nat → Bool} {n a : Nat} (ha : a < n) (hp : P a = true) (hl : ∀ b, b < a → P b = false) : gw_find P n = a := by
  obtain ⟨h1, h2⟩ := gw_find_spec P n
  by_cases q : gw_find P n < a
  · have h3 := hl _ q
    have h4 := h2 (by omega)
    rw [h3] at h4; cases h4
  · by_cases z : a < gw_find P n
    · have := h1 a z
      rw [this] at hp; cases hp
    · omega
section GP
variable {N na : Nat} {can : Nat → Nat → Bool} {af : Nat → Nat → Nat} {co : Nat → Nat} {met : Nat → Bool} {E : Nat} {dear : Nat → Nat}
theorem gw_dear_le (hN : ∀ s a, s < N → a < na → can a s = true → af a s < N) (h : gw_dear N na can af co met E dear) {t : Nat} (ht : met t = true) : ∀ {k s c : Nat}, s < N → gw_P na can af co k s t c → dear s ≤ c
  | 0, s, c, hs, hp => by
    obtain ⟨rfl, rfl⟩ := hp
    rw [h.2.2.1 s hs ht]; exact Nat.le_refl _
  | k + 1, s, c, hs, hp => by
    obtain ⟨a, c', ha, hc, hp, rfl⟩ := hp
    have h1 := gw_dear_le hN h ht (hN s a hs ha hc) hp
    have h2 := h.2.2.2 s a hs ha hc
    omega
/-- the least cost to a met state, off the order and off the reference's numbers -/
theorem gw_least {s0 n i0 : Nat} {o d : Nat → Nat} (hN : ∀ s a, s < N → a < na → can a s = true → af a s < N) (hs0 : s0 < N) (ho : gw_ok N na can af co s0 n o d) (h : gw_dear N na can af co met E dear)
    (hi : i0 < n) (hm : met (o i0) = true) (hl : ∀ i, i < i0 → met (o i) = false) (hE : d i0 < E) : dear s0 = d i0 := by
  obtain ⟨k, hp⟩ := ho.2.2.2.2.2.2.1 i0 hi
  have h1 : dear s0 ≤ d i0 := gw_dear_le hN h hm hs0 hp
  obtain ⟨t, ht, hr⟩ := h.2.1 s0 hs0 (by omega)
  obtain ⟨j, hj, he, hd⟩ := gw_ok_reach ho hr
  have h2 : ¬ j < i0 := fun z => by
    have := hl j z
    rw [he, ht] at this; cases this
  have h3 := ho.2.2.2.2.2.1 i0 j (by omega) hj
  omega
theorem gw_none {s0 n : Nat} {o d : Nat → Nat} (hs0 : s0 < N) (ho : gw_ok N na can af co s0 n o d) (h : gw_dear N na can af co met E dear) (hl : ∀ i, i < n → met (o i) = false) : dear s0 = E := by
  by_cases q : dear s0 < E
  · obtain ⟨t, ht, hr⟩ := h.2.1 s0 hs0 q
    obtain ⟨j, hj, he, hd⟩ := gw_ok_reach ho hr
    have := hl j hj
    rw [he, ht] at this; cases this
  · have := h.1 s0 hs0
    omega
/-- the action goes on from the i-th state of the order: to a state that has a way on, at just its cost -/
def gw_on1 (n : Nat) (can : Nat → Nat → Bool) (af : Nat → Nat → Nat) (co : Nat → Nat) (o d : Nat → Nat) (on : Nat → Int) (i a : Nat) : Prop := can a (o i) = true ∧ ∃ j, j < n ∧ o j = af a (o i) ∧ d j = d i + co a ∧ on (o j) ≠ -1
/-- the ways on, from the i0-th cost: -2 at an end, the least action, or -1 -/
def gw_on (n na : Nat) (can : Nat → Nat → Bool) (af : Nat → Nat → Nat) (co : Nat → Nat) (met : Nat → Bool) (least : Nat) (o d : Nat → Nat) (on : Nat → Int) : Prop :=
  ∀ i, i < n → ((d i = least ∧ met (o i) = true) ∧ on (o i) = -2) ∨ (¬ (d i = least ∧ met (o i) = true) ∧ ((∃ a, a < na ∧ gw_on1 n can af co o d on i a ∧ (∀ b, b < a → ¬ gw_on1 n can af co o d on i b) ∧ on (o i) = (a : Int)) ∨ ((∀ a, a < na → ¬ gw_on1 n can af co o d on i a) ∧ on (o i) = -1)))
theorem gw_on_good {s0 n least : Nat} {o d : Nat → Nat} {on : Nat → Int} (hco : ∀ a, a < na → 1 ≤ co a) (hN : ∀ s a, s < N → a < na → can a s = true → af a s < N) (ho : gw_ok N na can af co s0 n o d) (h : gw_dear N na can af co met E dear)
    (hmin : ∀ t c, met t = true → gw_R na can af co s0 t c → least ≤ c) (hE : least < E) (hon : gw_on n na can af co met least o d on) :
    ∀ m i, n - i ≤ m → i < n → (on (o i) ≠ -1 ↔ (dear (o i) < E ∧ d i + dear (o i) = least)) := by
  intro m
  induction m with
  | zero => intro i h1 h2; omega
  | succ m ih =>
    intro i hm hi
    have hoN := ho.2.2.2.1
    have hmono := ho.2.2.2.2.2.1
    have low : ∀ j, j < n → dear (o j) < E → least ≤ d j + dear (o j) := fun j hj hd => by
      obtain ⟨t, ht, hr⟩ := h.2.1 (o j) (hoN j hj) hd
      exact hmin t _ ht (gw_R_trans (ho.2.2.2.2.2.2.1 j hj) hr)
    have later : ∀ j, j < n → d i < d j → n - j ≤ m := fun j hj hd => by
      by_cases z : j ≤ i
      · have := hmono j i z hi; omega
      · omega
    constructor
    · intro hne
      rcases hon i hi with ⟨⟨h1, h2⟩, h3⟩ | ⟨hend, ⟨a, ha, ⟨hc, j, hj, he, hd, hj1⟩, -, h3⟩ | ⟨-, h3⟩⟩
      · have h4 := h.2.2.1 (o i) (hoN i hi) h2
        rw [h4]; omega
      · have h5 := hco a ha
        obtain ⟨h6, h7⟩ := (ih j (later j hj (by omega)) hj).mp hj1
        have h8 := h.2.2.2 (o i) a (hoN i hi) ha hc
        rw [← he] at h8
        have h9 : dear (o i) < E := by omega
        have h10 := low i hi h9
        exact ⟨h9, by omega⟩
      · exact (hne h3).elim
    · rintro ⟨h1, h2⟩ hneg
      rcases hon i hi with ⟨-, h3⟩ | ⟨hend, ⟨a, ha, -, -, h3⟩ | ⟨hnone, -⟩⟩
      · rw [h3] at hneg; cases hneg
      · rw [h3] at hneg; omega
      · obtain ⟨t, ht, k, hp⟩ := h.2.1 (o i) (hoN i hi) h1
        cases k with
        | zero =>
          obtain ⟨e1, e2⟩ := hp
          exact hend ⟨by omega, by rw [e1]; exact ht⟩
        | succ k =>
          obtain ⟨a, c', ha, hc, hp, e1⟩ := hp
          have h5 := hco a ha
          have h6 := gw_dear_le hN h ht (hN _ a (hoN i hi) ha hc) hp
          have h7 := h.2.2.2 (o i) a (hoN i hi) ha hc
          obtain ⟨j, hj, he, hd⟩ := ho.2.2.2.2.2.2.2 i a hi ha hc
          have h8 : dear (o j) = c' := by rw [he]; omega
          have h9 := low j hj (by omega)
          have h10 : d j = d i + co a := by omega
          have h11 := (ih j (later j hj (by omega)) hj).mpr ⟨by omega, by omega⟩
          exact hnone a ha ⟨hc, j, hj, he, h10, h11⟩
/-- on a state of a best way the class's next action is the reference's -/
theorem gw_on_best {s0 n least i : Nat} {o d : Nat → Nat} {on : Nat → Int} (hco : ∀ a, a < na → 1 ≤ co a) (hN : ∀ s a, s < N → a < na → can a s = true → af a s < N) (ho : gw_ok N na can af co s0 n o d) (h : gw_dear N na can af co met E dear)
    (hmin : ∀ t c, met t = true → gw_R na can af co s0 t c → least ≤ c) (hE : least < E) (hon : gw_on n na can af co met least o d on) (hi : i < n) (hg : dear (o i) < E ∧ d i + dear (o i) = least) :
    (dear (o i) = 0 ∧ on (o i) = -2) ∨ (0 < dear (o i) ∧ ∃ a j, a < na ∧ gw_find (fun b => can b (o i) && decide (co b + dear (af b (o i)) = dear (o i))) na = a ∧ on (o i) = (a : Int) ∧ can a (o i) = true ∧ j < n ∧ o j = af a (o i) ∧ co a + dear (o j) = dear (o i) ∧ d j = d i + co a ∧ dear (o j) < E ∧ d j + dear (o j) = least) := by
  have good := gw_on_good hco hN ho h hmin hE hon n
  have hoN := ho.2.2.2.1
  have low : ∀ j, j < n → dear (o j) < E → least ≤ d j + dear (o j) := fun j hj hd => by
    obtain ⟨t, ht, hr⟩ := h.2.1 (o j) (hoN j hj) hd
    exact hmin t _ ht (gw_R_trans (ho.2.2.2.2.2.2.1 j hj) hr)
  have hne := (good i (by omega) hi).mpr hg
  have eqv : ∀ b, b < na → (gw_on1 n can af co o d on i b ↔ (can b (o i) && decide (co b + dear (af b (o i)) = dear (o i))) = true) := by
    intro b hb
    simp only [Bool.and_eq_true, decide_eq_true_eq]
    constructor
    · rintro ⟨hc, j, hj, he, hd, hj1⟩
      obtain ⟨h6, h7⟩ := (good j (by omega) hj).mp hj1
      rw [he] at h6 h7
      exact ⟨hc, by omega⟩
    · rintro ⟨hc, he⟩
      obtain ⟨j, hj, he2, hd⟩ := ho.2.2.2.2.2.2.2 i b hi hb hc
      have h9 := low j hj (by rw [he2]; omega)
      rw [he2] at h9
      have h10 : d j = d i + co b := by omega
      exact ⟨hc, j, hj, he2, h10, (good j (by omega) hj).mpr (by rw [he2]; exact ⟨by omega, by omega⟩)⟩
  rcases hon i hi with ⟨⟨h1, h2⟩, h3⟩ | ⟨hend, ⟨a, ha, h1, h2, h3⟩ | ⟨-, h3⟩⟩
  · exact Or.inl ⟨h.2.2.1 (o i) (hoN i hi) h2, h3⟩
  · have hq := (eqv a ha).mp h1
    have hfind : gw_find (fun b => can b (o i) && decide (co b + dear (af b (o i)) = dear (o i))) na = a := gw_find_eq ha hq (fun b hb => by
      cases hz : (can b (o i) && decide (co b + dear (af b (o i)) = dear (o i))) with
      | false => rfl
      | true => exact (h2 b hb ((eqv b (by omega)).mpr hz)).elim)
    obtain ⟨hc, j, hj, he, hd, hj1⟩ := h1
    obtain ⟨h6, h7⟩ := (good j (by omega) hj).mp hj1
    have h5 := hco a ha
    have h8 : co a + dear (o j) = dear (o i) := by omega
    exact Or.inr ⟨by omega, a, j, ha, hfind, h3, hc, hj, he, h8, hd, h6, h7⟩
  · exact (hne h3).elim
end GP
end
section
/-! Sets of facts as numbers: the zone and what is behind it, as least closed sets. -/
def cu_le (X Y : Nat) : Prop := ∀ b, X.testBit b = true → Y.testBit b = true
theorem cu_eq {X Y : Nat} (h : cu_le X Y) (g : cu_le Y X) : X = Y := by
  refine Nat.eq_of_testBit_eq fun i => ?_
  cases hx : X.testBit i with
  | true => exact (h i hx).symm
  | false =>
    cases hy : Y.testBit i with
    | false => rfl
    | true => rw [g i hy] at hx; cases hx
theorem cu_refl (X : Nat) : cu_le X X := fun _ h => h
theorem cu_trans {X Y V : Nat} (h : cu_le X Y) (g : cu_le Y V) : cu_le X V := fun b hb => g b (h b hb)
theorem cu_or {X Y V : Nat} (h : cu_le X V) (g : cu_le Y V) : cu_le (X ||| Y) V := fun b hb => by
  rw [Nat.testBit_or, Bool.or_eq_true] at hb
  rcases hb with hb | hb
  · exact h b hb
  · exact g b hb
theorem cu_orl (X Y : Nat) : cu_le X (X ||| Y) := fun b hb => by rw [Nat.testBit_or, hb]; rfl
theorem cu_orr (X Y : Nat) : cu_le Y (X ||| Y) := fun b hb => by rw [Nat.testBit_or, hb, Bool.or_true]
theorem cu_ne {X : Nat} : X ≠ 0 ↔ ∃ b, X.testBit b = true := by
  constructor
  · intro h
    by_cases q : ∃ b, X.testBit b = true
    · exact q
    · exfalso
      apply h
      refine Nat.eq_of_testBit_eq fun i => ?_
      rw [Nat.zero_testBit]
      cases hx : X.testBit i with
      | false => rfl
      | true => exact (q ⟨i, hx⟩).elim
  · rintro ⟨b, hb⟩ rfl
    rw [Nat.zero_testBit] at hb; cases hb
theorem cu_and_ne {X Y : Nat} : X &&& Y ≠ 0 ↔ ∃ b, X.testBit b = true ∧ Y.testBit b = true := by
  rw [cu_ne]
  constructor
  · rintro ⟨b, hb⟩
    rw [Nat.testBit_and, Bool.and_eq_true] at hb
    exact ⟨b, hb⟩
  · rintro ⟨b, h1, h2⟩
    exact ⟨b, by rw [Nat.testBit_and, h1, h2]; rfl⟩
theorem cu_bit {X b : Nat} : cu_le (2 ^ b) X ↔ X.testBit b = true := by
  constructor
  · intro h
    exact h b (by rw [Nat.testBit_two_pow]; simp)
  · intro h i hi
    rw [Nat.testBit_two_pow] at hi
    have : b = i := by simpa using hi
    subst this; exact h
/-- a step a of a growing set: when its test holds it puts a set in -/
def cu_rd (te : Nat → Nat → Bool) (pu : Nat → Nat) (X : Nat) : Nat → Nat
  | 0 => X
  | a + 1 => if te a (cu_rd te pu X a) = true then cu_rd te pu X a ||| pu a else cu_rd te pu X a
def cu_cl (na : Nat) (te : Nat → Nat → Bool) (pu : Nat → Nat) (X : Nat) : Prop := ∀ a, a < na → te a X = true → cu_le (pu a) X
/-- the least closed set over a start -/
def cu_is (na : Nat) (te : Nat → Nat → Bool) (pu : Nat → Nat) (X0 X : Nat) : Prop := cu_le X0 X ∧ cu_cl na te pu X ∧ ∀ Y, cu_le X0 Y → cu_cl na te pu Y → cu_le X Y
section CU
variable {na : Nat} {te : Nat → Nat → Bool} {pu : Nat → Nat}
theorem cu_is_eq {X0 X Y : Nat} (h : cu_is na te pu X0 X) (g : cu_is na te pu X0 Y) : X = Y := cu_eq (h.2.2 Y g.1 g.2.1) (g.2.2 X h.1 h.2.1)
theorem cu_rd_ge (X : Nat) : ∀ k, cu_le X (cu_rd te pu X k)
  | 0 => cu_refl _
  | k + 1 => by
    have ih := cu_rd_ge X k
    unfold cu_rd
    split
    · exact cu_trans ih (cu_orl _ _)
    · exact ih
theorem cu_rd_le (hte : ∀ a X Y, cu_le X Y → te a X = true → te a Y = true) {X Y : Nat} (h : cu_le X Y) (hY : cu_cl na te pu Y) : ∀ k, k ≤ na → cu_le (cu_rd te pu X k) Y
  | 0, _ => h
  | k + 1, hk => by
    have ih := cu_rd_le hte h hY k (by omega)
    unfold cu_rd
    split
    · next q => exact cu_or ih (hY k (by omega) (hte k _ _ ih q))
    · exact ih
theorem cu_rd_fix {X : Nat} (h : cu_rd te pu X na = X) (hte : ∀ a X Y, cu_le X Y → te a X = true → te a Y = true) : cu_cl na te pu X := by
  have stay : ∀ k, k ≤ na → cu_le (cu_rd te pu X k) X := by
    have up : ∀ j k, cu_le (cu_rd te pu X k) (cu_rd te pu X (k + j)) := by
      intro j
      induction j with
      | zero => intro k; exact cu_refl _
      | succ j ih =>
        intro k
        refine cu_trans (ih k) ?_
        show cu_le _ (cu_rd te pu X (k + j + 1))
        rw [cu_rd]
        split
        · exact cu_orl _ _
        · exact cu_refl _
    intro k hk
    have := up (na - k) k
    rw [show k + (na - k) = na by omega, h] at this
    exact this
  intro a ha ht
  have h1 := stay (a + 1) (by omega)
  unfold cu_rd at h1
  rw [if_pos (hte a _ _ (cu_rd_ge X a) ht)] at h1
  exact cu_trans (cu_orr _ _) h1
end CU
def cu_n (X m : Nat) : Nat := lm_cnt (fun b => X.testBit b) m
theorem cu_n_lt {X Y m : Nat} (h : cu_le X Y) (hY : Y < 2 ^ m) (hne : X ≠ Y) : cu_n X m < cu_n Y m := by
  refine lm_cnt_lt (fun f _ hf => h f hf) ?_
  by_cases q : ∃ b, X.testBit b = false ∧ Y.testBit b = true
  · obtain ⟨b, h1, h2⟩ := q
    refine ⟨b, ?_, h1, h2⟩
    by_cases z : b < m
    · exact z
    · have := Nat.testBit_lt_two_pow (x := Y) (i := b) (Nat.lt_of_lt_of_le hY (Nat.pow_le_pow_right (by omega) (by omega)))
      rw [h2] at this; cases this
  · exfalso
    apply hne
    refine cu_eq h fun b hb => ?_
    cases hx : X.testBit b with
    | true => rfl
    | false => exact (q ⟨b, hx, hb⟩).elim
end
section
/-! The search by rising cost, as numbers alone. -/
def se_inv (N na : Nat) (can : Nat → Nat → Bool) (af : Nat → Nat → Nat) (co : Nat → Nat) (s0 now n : Nat) (o d : Nat → Nat) : Prop :=
  0 < n ∧ o 0 = s0 ∧ d 0 = 0 ∧ (∀ i, i < n → o i < N) ∧ (∀ i j, i < n → j < n → o i = o j → i = j) ∧ (∀ i j, i ≤ j → j < n → d i ≤ d j) ∧ (∀ i, i < n → gw_R na can af co s0 (o i) (d i)) ∧ (∀ i, i < n → d i ≤ now) ∧ (∀ i, i + 1 < n → d (i + 1) ≤ d i + 9)
/-- what costs less than x is gone over -/
def se_done (na : Nat) (can : Nat → Nat → Bool) (af : Nat → Nat → Nat) (co : Nat → Nat) (n : Nat) (o d : Nat → Nat) (x : Nat) : Prop := ∀ i a, i < n → a < na → can a (o i) = true → d i + co a < x → ∃ j, j < n ∧ o j = af a (o i) ∧ d j ≤ d i + co a
section SE
variable {N na : Nat} {can : Nat → Nat → Bool} {af : Nat → Nat → Nat} {co : Nat → Nat} {s0 now n : Nat} {o d : Nat → Nat}
theorem se_start (hs : s0 < N) : se_inv N na can af co s0 0 1 (fun _ => s0) (fun _ => 0) :=
  ⟨by omega, rfl, rfl, fun _ _ => hs, fun i j hi hj _ => by omega, fun _ _ _ _ => Nat.le_refl _, fun _ _ => gw_R_0 _, fun _ _ => Nat.le_refl _, fun i hi => by omega⟩
theorem se_next (h : se_inv N na can af co s0 now n o d) : se_inv N na can af co s0 (now + 1) n o d := by
  obtain ⟨h1, h2, h3, h4, h5, h6, h7, h8, h9⟩ := h
  exact ⟨h1, h2, h3, h4, h5, h6, h7, fun i hi => Nat.le_succ_of_le (h8 i hi), h9⟩
theorem se_push {i a : Nat} (h : se_inv N na can af co s0 now n o d) (hi : i < n) (ha : a < na) (hc : can a (o i) = true) (hd : d i + co a = now) (h9 : co a ≤ 9) (hN : af a (o i) < N) (hnew : ∀ j, j < n → o j ≠ af a (o i)) :
    se_inv N na can af co s0 now (n + 1) (va_up o n (af a (o i))) (va_up d n now) := by
  obtain ⟨g1, g2, g3, g4, g5, g6, g7, g8, g9⟩ := h
  have eo : ∀ j, j < n → va_up o n (af a (o i)) j = o j := fun j hj => va_up_ne _ _ (by omega)
  have ed : ∀ j, j < n → va_up d n now j = d j := fun j hj => va_up_ne _ _ (by omega)
  have eon : va_up o n (af a (o i)) n = af a (o i) := va_up_self _ _ _
  have edn : va_up d n now n = now := va_up_self _ _ _
  refine ⟨by omega, by rw [eo 0 g1]; exact g2, by rw [ed 0 g1]; exact g3, fun j hj => ?_, fun j k hj hk e => ?_, fun j k hjk hk => ?_, fun j hj => ?_, fun j hj => ?_, fun j hj => ?_⟩
  · by_cases e : j = n
    · subst e; rw [eon]; exact hN
    · rw [eo j (by omega)]; exact g4 j (by omega)
  · by_cases ej : j = n
    · by_cases ek : k = n
      · omega
      · subst ej
        rw [eon, eo k (by omega)] at e
        exact (hnew k (by omega) e.symm).elim
    · by_cases ek : k = n
      · subst ek
        rw [eon, eo j (by omega)] at e
        exact (hnew j (by omega) e).elim
      · rw [eo j (by omega), eo k (by omega)] at e
        exact g5 j k (by omega) (by omega) e
  · by_cases ek : k = n
    · subst ek
      rw [edn]
      by_cases ej : j = k
      · subst ej; rw [edn]; exact Nat.le_refl _
      · rw [ed j (by omega)]; exact g8 j (by omega)
    · rw [ed j (by omega), ed k (by omega)]; exact g6 j k hjk (by omega)
  · by_cases e : j = n
    · subst e
      rw [eon, edn, ← hd]
      exact gw_R_r ha hc (g7 i hi)
    · rw [eo j (by omega), ed j (by omega)]; exact g7 j (by omega)
  · by_cases e : j = n
    · subst e; rw [edn]; exact Nat.le_refl _
    · rw [ed j (by omega)]; exact g8 j (by omega)
  · by_cases e : j + 1 = n
    · rw [e, edn, ed j (by omega)]
      have := g6 i j (by omega) (by omega)
      omega
    · rw [ed (j + 1) (by omega), ed j (by omega)]; exact g9 j (by omega)
theorem se_done_push {t x : Nat} (h : se_done na can af co n o d x) (hco : ∀ a, a < na → 1 ≤ co a) (hx : x ≤ now + 1) : se_done na can af co (n + 1) (va_up o n t) (va_up d n now) x := by
  intro i a hi ha hc hd
  by_cases e : i = n
  · subst e
    rw [va_up_self] at hd
    have := hco a ha
    omega
  · rw [va_up_ne _ _ e] at hc hd
    rw [va_up_ne _ _ e, va_up_ne _ _ e]
    obtain ⟨j, hj, he, hd2⟩ := h i a (by omega) ha hc hd
    exact ⟨j, by omega, by rw [va_up_ne _ _ (by omega)]; exact he, by rw [va_up_ne _ _ (by omega)]; exact hd2⟩
theorem se_gap (h : se_inv N na can af co s0 now n o d) : ∀ i, i < n → d i ≤ 9 * i
  | 0, _ => by rw [h.2.2.1]; exact Nat.zero_le _
  | i + 1, hi => by
    have h1 := se_gap h i (by omega)
    have h2 := h.2.2.2.2.2.2.2.2 i hi
    omega
theorem se_end {x : Nat} (h : se_inv 1024 na can af co s0 now n o d) (hN : ∀ s a, s < 1024 → a < na → can a s = true → af a s < 1024) (hco : ∀ a, a < na → co a ≤ 9) (hdone : se_done na can af co n o d x) (hx : d (n - 1) + 9 < x ∨ x = 9208) : gw_ok 1024 na can af co s0 n o d := by
  have gap := se_gap h
  obtain ⟨g1, g2, g3, g4, g5, g6, g7, g8, g9⟩ := h
  refine ⟨g1, g2, g3, g4, g5, g6, g7, fun i a hi ha hc => ?_⟩
  by_cases q : d i + co a < x
  · exact hdone i a hi ha hc q
  · have h1 := hco a ha
    rcases hx with hx | rfl
    · have := g6 i (n - 1) (by omega) (by omega)
      omega
    · have h2 := gap i hi
      have h3 : n ≤ 1024 := gw_pigeon 1024 g4 g5
      have h4 : n = 1024 := by omega
      subst h4
      obtain ⟨j, hj, he⟩ := gw_full g4 g5 (hN (o i) a (g4 i hi) ha hc)
      have h5 := gap j hj
      exact ⟨j, hj, he, by omega⟩
end SE
end
section
/-! One cut, as numbers alone: the zone before the goal's base, what is behind it, the actions across. -/
/-- b is the base of S: 10 for no fact, else the least of the facts with the greatest level -/
def cu_B (h : Nat → Nat) (S n b : Nat) : Prop := (b = 10 ∧ ∀ f, f < n → S.testBit f = false) ∨ (b < n ∧ S.testBit b = true ∧ (∀ f, f < n → S.testBit f = true → h f ≤ h b) ∧ ∀ f, f < b → S.testBit f = true → h f < h b)
theorem cu_B_eq {h : Nat → Nat} {S n a b : Nat} (ha : cu_B h S n a) (hb : cu_B h S n b) : a = b := by
  rcases ha with ⟨e1, n1⟩ | ⟨a1, a2, a3, a4⟩
  · rcases hb with ⟨e2, n2⟩ | ⟨b1, b2, b3, b4⟩
    · omega
    · rw [n1 b b1] at b2; cases b2
  · rcases hb with ⟨e2, n2⟩ | ⟨b1, b2, b3, b4⟩
    · rw [n2 a a1] at a2; cases a2
    · have h1 := a3 b b1 b2
      have h2 := b3 a a1 a2
      by_cases q : a < b
      · have := b4 a q a2; omega
      · by_cases z : b < a
        · have := a4 b z b2; omega
        · omega
theorem cu_B_congr {h g : Nat → Nat} {S n b : Nat} (hg : ∀ f, f < n → S.testBit f = true → h f = g f) (hb : cu_B h S n b) : cu_B g S n b := by
  rcases hb with ⟨e2, n2⟩ | ⟨b1, b2, b3, b4⟩
  · exact Or.inl ⟨e2, n2⟩
  · refine Or.inr ⟨b1, b2, fun f hf hs => ?_, fun f hf hs => ?_⟩
    · rw [← hg f hf hs, ← hg b b1 b2]; exact b3 f hf hs
    · rw [← hg f (by omega) hs, ← hg b b1 b2]; exact b4 f hf hs
/-- the base's level is the level of the set -/
theorem cu_B_jp {h : Nat → Nat} {S b : Nat} : ∀ {n : Nat}, b < n → S.testBit b = true → (∀ f, f < n → S.testBit f = true → h f ≤ h b) → lm_jp false h S n = h b := by
  intro n hb hs hm
  refine Nat.le_antisymm ?_ (lm_jp_ge hb hs)
  have : ∀ m, m ≤ n → lm_jp false h S m ≤ h b := by
    intro m
    induction m with
    | zero => intro _; exact Nat.zero_le _
    | succ m ih =>
      intro hm1
      have h1 := ih (by omega)
      unfold lm_jp
      by_cases q : S.testBit m = true
      · have h2 := hm m (by omega) q
        simp only [q, if_true, Bool.false_eq_true, if_false]
        omega
      · simp only [q]; exact h1
  exact this n (Nat.le_refl _)
theorem cu_jp_0 {w : Bool} {h : Nat → Nat} {S : Nat} : ∀ {n : Nat}, (∀ f, f < n → S.testBit f = false) → lm_jp w h S n = 0
  | 0, _ => rfl
  | n + 1, hh => by
    unfold lm_jp
    rw [if_neg (by rw [hh n (by omega)]; decide)]
    exact cu_jp_0 fun f hf => hh f (by omega)
/-- the number of a set -/
def cu_mk (P : Nat → Bool) : Nat → Nat
  | 0 => 0
  | k + 1 => cu_mk P k ||| (if P k = true then 2 ^ k else 0)
theorem cu_mk_bit (P : Nat → Bool) (b : Nat) : ∀ n, (cu_mk P n).testBit b = (decide (b < n) && P b)
  | 0 => by simp [cu_mk]
  | n + 1 => by
    unfold cu_mk
    rw [Nat.testBit_or, cu_mk_bit P b n]
    by_cases q : P n = true
    · rw [if_pos q, Nat.testBit_two_pow]
      by_cases e : n = b
      · subst e; simp [q]
      · have h1 : decide (n = b) = false := decide_eq_false e
        by_cases z : b < n
        · simp [z, (by omega : b < n + 1), h1]
        · simp [z, h1]
          intro hb
          omega
    · rw [if_neg q, Nat.zero_testBit]
      by_cases e : n = b
      · subst e
        have : P n = false := by simpa using q
        simp [this]
      · by_cases z : b < n
        · simp [z, (by omega : b < n + 1)]
        · simp [z]
          intro hb
          omega
section CC
variable {K n na s go gb X R : Nat} {c ne ad ba : Nat → Nat} {L : Nat → Nat}
/-- the actions whose needs have a level -/
def cu_fin (K n : Nat) (ne : Nat → Nat) (L : Nat → Nat) (a : Nat) : Bool := decide (lm_jn K false L (ne a) n < K)
def cu_tz (K n : Nat) (c ne ad : Nat → Nat) (L : Nat → Nat) (a X : Nat) : Bool := decide (c a = 0) && cu_fin K n ne L a && decide (ad a &&& X ≠ 0)
def cu_tr (K n : Nat) (ne ba : Nat → Nat) (L : Nat → Nat) (a X : Nat) : Bool := cu_fin K n ne L a && X.testBit (ba a)
/-- an action across: based behind the zone, adding in it -/
def cu_ac (K n : Nat) (ne ad ba : Nat → Nat) (L : Nat → Nat) (X R a : Nat) : Bool := cu_fin K n ne L a && R.testBit (ba a) && decide (ad a &&& X ≠ 0)
theorem cu_tz_mono (a V Y : Nat) (h : cu_le V Y) (ht : cu_tz K n c ne ad L a V = true) : cu_tz K n c ne ad L a Y = true := by
  unfold cu_tz at *
  simp only [Bool.and_eq_true, decide_eq_true_eq] at *
  refine ⟨ht.1, ?_⟩
  obtain ⟨b, h1, h2⟩ := cu_and_ne.mp ht.2
  exact cu_and_ne.mpr ⟨b, h1, h b h2⟩
theorem cu_tr_mono (a V Y : Nat) (h : cu_le V Y) (ht : cu_tr K n ne ba L a V = true) : cu_tr K n ne ba L a Y = true := by
  unfold cu_tr at *
  simp only [Bool.and_eq_true] at *
  exact ⟨ht.1, h _ ht.2⟩
/-- an action of finite needs: its base's level is the needs' -/
theorem cu_base {a : Nat} (hB : cu_B L (ne a) n (ba a)) (hf : cu_fin K n ne L a = true) : (ba a = 10 ∧ lm_jn K false L (ne a) n = 0) ∨ (ba a < n ∧ (ne a).testBit (ba a) = true ∧ lm_jn K false L (ne a) n = L (ba a)) := by
  have hf : lm_jn K false L (ne a) n < K := by simpa [cu_fin] using hf
  rcases hB with ⟨e, hn⟩ | ⟨b1, b2, b3, b4⟩
  · exact Or.inl ⟨e, by unfold lm_jn; rw [cu_jp_0 hn]; omega⟩
  · refine Or.inr ⟨b1, b2, ?_⟩
    unfold lm_jn at hf ⊢
    rw [cu_B_jp b1 b2 b3] at hf ⊢
    omega
/-- the zone's facts cost at least what the goal does -/
theorem cu_zone (hp : lm_px K false n na c ne ad (fun _ => false) L) (hB : ∀ a, a < na → cu_fin K n ne L a = true → cu_B L (ne a) n (ba a)) (had : ∀ a, a < na → ad a < 2 ^ n) (hg : gb < n) (h0 : 0 < L gb)
    (hX : cu_is na (cu_tz K n c ne ad L) (fun a => 2 ^ ba a) (2 ^ gb) X) : ∀ b, X.testBit b = true → b < n ∧ L gb ≤ L b := by
  have hY := hX.2.2 (cu_mk (fun b => decide (L gb ≤ L b)) n) (cu_bit.mpr (by rw [cu_mk_bit]; simp [hg])) (fun a ha ht => by
    rw [cu_bit, cu_mk_bit]
    unfold cu_tz at ht
    simp only [Bool.and_eq_true, decide_eq_true_eq] at ht
    obtain ⟨⟨hc, hf⟩, hn⟩ := ht
    obtain ⟨f, hfa, hfm⟩ := cu_and_ne.mp hn
    rw [cu_mk_bit] at hfm
    simp only [Bool.and_eq_true, decide_eq_true_eq] at hfm
    have h1 := hp a f ha rfl hfm.1 hfa
    rcases cu_base (hB a ha hf) hf with ⟨-, z⟩ | ⟨b1, -, z⟩
    · omega
    · simp only [b1, decide_true, Bool.true_and, decide_eq_true_eq]
      omega)
  intro b hb
  have := hY b hb
  rw [cu_mk_bit] at this
  simpa using this
theorem cu_rest (hR : cu_is na (cu_tr K n ne ba L) (fun a => bm_dif (ad a) X) (bm_dif (s ||| 2 ^ 10) X) R) : ∀ b, R.testBit b = true → X.testBit b = false := by
  have hY := hR.2.2 (bm_dif R X) (fun b hb => by
    have h1 := hR.1 b hb
    rw [bm_dif_bit] at hb ⊢
    simp only [Bool.and_eq_true] at hb
    rw [h1, hb.2]; rfl) (fun a ha ht b hb => by
    have h2 : cu_le (bm_dif R X) R := fun i hi => by rw [bm_dif_bit] at hi; simp only [Bool.and_eq_true] at hi; exact hi.1
    have h1 := hR.2.1 a ha (cu_tr_mono a _ _ h2 ht) b hb
    rw [bm_dif_bit] at hb ⊢
    simp only [Bool.and_eq_true] at hb
    rw [h1, hb.2]; rfl)
  intro b hb
  have := hY b hb
  rw [bm_dif_bit] at this
  simpa [hb] using this
/-- an action across costs something -/
theorem cu_pos {a : Nat} (ha : a < na) (hX : cu_cl na (cu_tz K n c ne ad L) (fun a => 2 ^ ba a) X) (hd : ∀ b, R.testBit b = true → X.testBit b = false) (hc : cu_ac K n ne ad ba L X R a = true) : 0 < c a := by
  unfold cu_ac at hc
  simp only [Bool.and_eq_true, decide_eq_true_eq] at hc
  obtain ⟨⟨hf, hr⟩, hn⟩ := hc
  by_cases q : c a = 0
  · have h1 := hX a ha (by unfold cu_tz; simp only [Bool.and_eq_true, decide_eq_true_eq]; exact ⟨⟨q, hf⟩, hn⟩)
    rw [cu_bit] at h1
    rw [hd _ hr] at h1; cases h1
  · omega
/-- some action is across -/
theorem cu_some (hp : lm_px K false n na c ne ad (fun _ => false) L) (hL : ∀ f, f < n → L f ≤ lm_i0 K s f) (hmax : ∀ Y, lm_px K false n na c ne ad (fun _ => false) Y → (∀ f, f < n → Y f ≤ lm_i0 K s f) → ∀ f, f < n → Y f ≤ L f)
    (hB : ∀ a, a < na → cu_fin K n ne L a = true → cu_B L (ne a) n (ba a)) (had : ∀ a, a < na → ad a < 2 ^ n) (hs : s < 2 ^ n) (hn : n ≤ 10) (hg : gb < n) (h0 : 0 < L gb) (hgK : L gb < K)
    (hX : cu_is na (cu_tz K n c ne ad L) (fun a => 2 ^ ba a) (2 ^ gb) X) (hR : cu_is na (cu_tr K n ne ba L) (fun a => bm_dif (ad a) X) (bm_dif (s ||| 2 ^ 10) X) R) : ∃ a, a < na ∧ cu_ac K n ne ad ba L X R a = true := by
  by_cases q : ∃ a, a < na ∧ cu_ac K n ne ad ba L X R a = true
  · exact q
  · exfalso
    have hz := cu_zone hp hB had hg h0 hX
    have hdis := cu_rest hR
    have hgX : X.testBit gb = true := cu_bit.mp hX.1
    have hgR : R.testBit gb = false := by
      cases h : R.testBit gb with
      | false => rfl
      | true => rw [hdis gb h] at hgX; cases hgX
    have hst : ∀ f, (s ||| 2 ^ 10).testBit f = true → (f = 10 ∨ L f = 0) → R.testBit f = true := fun f hf hl => by
      refine hR.1 f ?_
      rw [bm_dif_bit, hf]
      cases hx : X.testBit f with
      | false => rfl
      | true =>
        obtain ⟨h1, h2⟩ := hz f hx
        omega
    have h10 : R.testBit 10 = true := hst 10 (by rw [Nat.testBit_or, Nat.testBit_two_pow]; simp) (Or.inl rfl)
    have hLK : ∀ f, f < n → L f ≤ K := fun f hf => Nat.le_trans (hL f hf) (lm_i0_le K s f)
    have key := hmax (fun f => if R.testBit f = true then L f else K) (fun a f ha hb hf hq => by
      show (if R.testBit f = true then L f else K) ≤ c a + lm_jn K false (fun f => if R.testBit f = true then L f else K) (ne a) n
      have hge : lm_jn K false L (ne a) n ≤ lm_jn K false (fun f => if R.testBit f = true then L f else K) (ne a) n := lm_jn_mono fun g hg _ => by
        show L g ≤ if R.testBit g = true then L g else K
        split
        · exact Nat.le_refl _
        · exact hLK g hg
      by_cases hr : R.testBit f = true
      · rw [if_pos hr]
        have := hp a f ha rfl hf hq
        omega
      · rw [if_neg hr]
        by_cases hfin : cu_fin K n ne L a = true
        · have hbR : R.testBit (ba a) = false := by
            cases h : R.testBit (ba a) with
            | false => rfl
            | true =>
              exfalso
              have hno : ¬ (ad a &&& X ≠ 0) := fun z => q ⟨a, ha, by unfold cu_ac; simp only [Bool.and_eq_true, decide_eq_true_eq]; exact ⟨⟨hfin, h⟩, z⟩⟩
              have h1 := hR.2.1 a ha (by unfold cu_tr; rw [hfin, h]; rfl) f (by
                rw [bm_dif_bit, hq]
                cases hx : X.testBit f with
                | false => rfl
                | true => exact (hno (cu_and_ne.mpr ⟨f, hq, hx⟩)).elim)
              exact hr h1
          rcases cu_base (hB a ha hfin) hfin with ⟨z, -⟩ | ⟨b1, b2, -⟩
          · rw [z, h10] at hbR; cases hbR
          · have := lm_jn_ge (K := K) (w := false) (h := fun f => if R.testBit f = true then L f else K) b1 b2 (by simp [hbR])
            simp [hbR] at this
            omega
        · have : ¬ lm_jn K false L (ne a) n < K := by simpa [cu_fin] using hfin
          omega) (fun f hf => by
      show (if R.testBit f = true then L f else K) ≤ lm_i0 K s f
      by_cases hr : R.testBit f = true
      · rw [if_pos hr]; exact hL f hf
      · rw [if_neg hr]
        unfold lm_i0
        by_cases hsf : s.testBit f = true
        · exfalso
          apply hr
          refine hst f (by rw [Nat.testBit_or, hsf]; rfl) (Or.inr ?_)
          have := hL f hf
          unfold lm_i0 at this
          rw [if_pos hsf] at this
          omega
        · rw [if_neg hsf]; exact Nat.le_refl _) gb hg
    have key : (if R.testBit gb = true then L gb else K) ≤ L gb := key
    rw [if_neg (by rw [hgR]; decide)] at key
    omega
end CC
/-- with no costs left every level is 0 or the cap -/
theorem cu_free {K n na s : Nat} {c ne ad : Nat → Nat} {bar : Nat → Bool} (hc : ∀ a, a < na → c a = 0) : ∀ k f, lm_it K false n na c ne ad bar (lm_i0 K s) k f = 0 ∨ lm_it K false n na c ne ad bar (lm_i0 K s) k f = K := by
  have hj : ∀ (h : Nat → Nat) (S m : Nat), (∀ f, h f = 0 ∨ h f = K) → lm_jp false h S m = 0 ∨ lm_jp false h S m = K := by
    intro h S m hh
    induction m with
    | zero => exact Or.inl rfl
    | succ m ih =>
      unfold lm_jp
      have := hh m
      by_cases q : S.testBit m = true
      · simp only [q, if_true, Bool.false_eq_true, if_false]
        omega
      · simp only [q]; exact ih
  have hr : ∀ (h : Nat → Nat), (∀ f, h f = 0 ∨ h f = K) → ∀ m, m ≤ na → ∀ f, lm_rd K false n c ne ad bar h m f = 0 ∨ lm_rd K false n c ne ad bar h m f = K := by
    intro h hh m
    induction m with
    | zero => intro _; exact hh
    | succ m ih =>
      intro hm f
      have ih := ih (by omega)
      unfold lm_rd
      split
      · exact ih f
      · have h1 := hj (lm_rd K false n c ne ad bar h m) (ne m) n ih
        have h2 := hc m (by omega)
        unfold lm_act
        split
        · unfold lm_jn; omega
        · exact ih f
  intro k
  induction k with
  | zero =>
    intro f
    show lm_i0 K s f = 0 ∨ lm_i0 K s f = K
    unfold lm_i0
    split
    · exact Or.inl rfl
    · exact Or.inr rfl
  | succ k ih => exact hr _ ih na (Nat.le_refl _)
end
section
/-! The best way itself: the least action that goes on, state by state. -/
def pl_nx (na : Nat) (can : Nat → Nat → Bool) (af : Nat → Nat → Nat) (co dear : Nat → Nat) (s : Nat) : Nat := gw_find (fun b => can b s && decide (co b + dear (af b s) = dear s)) na
def pl_s (na : Nat) (can : Nat → Nat → Bool) (af : Nat → Nat → Nat) (co dear : Nat → Nat) (s0 : Nat) : Nat → Nat
  | 0 => s0
  | k + 1 => af (pl_nx na can af co dear (pl_s na can af co dear s0 k)) (pl_s na can af co dear s0 k)
section PL
variable {N na : Nat} {can : Nat → Nat → Bool} {af : Nat → Nat → Nat} {co : Nat → Nat} {met : Nat → Bool} {E : Nat} {dear : Nat → Nat}
theorem pl_walk {s0 n least : Nat} {o d : Nat → Nat} {on : Nat → Int} (hco : ∀ a, a < na → 1 ≤ co a) (hN : ∀ s a, s < N → a < na → can a s = true → af a s < N) (ho : gw_ok N na can af co s0 n o d) (h : gw_dear N na can af co met E dear)
    (hmin : ∀ t c, met t = true → gw_R na can af co s0 t c → least ≤ c) (hE : least < E) (hon : gw_on n na can af co met least o d on) (hd0 : dear s0 = least) :
    ∀ k, (∀ j, j < k → 0 < dear (pl_s na can af co dear s0 j)) → ∃ i, i < n ∧ o i = pl_s na can af co dear s0 k ∧ dear (pl_s na can af co dear s0 k) < E ∧ d i + dear (pl_s na can af co dear s0 k) = least ∧
      ((dear (pl_s na can af co dear s0 k) = 0 ∧ on (pl_s na can af co dear s0 k) = -2) ∨ (0 < dear (pl_s na can af co dear s0 k) ∧ pl_nx na can af co dear (pl_s na can af co dear s0 k) < na ∧ on (pl_s na can af co dear s0 k) = (pl_nx na can af co dear (pl_s na can af co dear s0 k) : Int) ∧ can (pl_nx na can af co dear (pl_s na can af co dear s0 k)) (pl_s na can af co dear s0 k) = true ∧ dear (pl_s na can af co dear s0 (k + 1)) < dear (pl_s na can af co dear s0 k))) := by
  have step : ∀ i s, i < n → o i = s → dear s < E → d i + dear s = least → (dear s = 0 ∧ on s = -2) ∨ (0 < dear s ∧ pl_nx na can af co dear s < na ∧ on s = (pl_nx na can af co dear s : Int) ∧ can (pl_nx na can af co dear s) s = true ∧ dear (af (pl_nx na can af co dear s) s) < dear s ∧ ∃ j, j < n ∧ o j = af (pl_nx na can af co dear s) s ∧ dear (af (pl_nx na can af co dear s) s) < E ∧ d j + dear (af (pl_nx na can af co dear s) s) = least) := by
    intro i s hi he h1 h2
    subst he
    rcases gw_on_best hco hN ho h hmin hE hon hi ⟨h1, h2⟩ with q | ⟨q0, a, j, ha, hf, hon1, hc, hj, he, hd, hd2, h3, h4⟩
    · exact Or.inl q
    · have e : pl_nx na can af co dear (o i) = a := hf
      have := hco a ha
      rw [e]
      rw [he] at hd h3 h4
      exact Or.inr ⟨q0, ha, hon1, hc, by omega, j, hj, he, h3, h4⟩
  intro k
  induction k with
  | zero =>
    intro _
    have h0 : d 0 + dear s0 = least := by rw [ho.2.2.1]; omega
    refine ⟨0, ho.1, ho.2.1, by show dear s0 < E; omega, h0, ?_⟩
    rcases step 0 s0 ho.1 ho.2.1 (by omega) h0 with q | ⟨q0, q1, q2, q3, q4, -⟩
    · exact Or.inl q
    · exact Or.inr ⟨q0, q1, q2, q3, q4⟩
  | succ k ih =>
    intro hk
    obtain ⟨i, hi, he, h1, h2, h3⟩ := ih fun j hj => hk j (by omega)
    have hp := hk k (by omega)
    rcases step i _ hi he h1 h2 with q | ⟨q0, q1, q2, q3, q4, j, hj, hje, hjE, hjl⟩
    · omega
    · refine ⟨j, hj, hje, hjE, hjl, ?_⟩
      rcases step j _ hj hje hjE hjl with q | ⟨r0, r1, r2, r3, r4, -⟩
      · exact Or.inl q
      · exact Or.inr ⟨r0, r1, r2, r3, r4⟩
/-- its length: some number of at most 1023 actions -/
theorem pl_len {s0 : Nat} (hs : ∀ k, (∀ j, j < k → 0 < dear (pl_s na can af co dear s0 j)) → pl_s na can af co dear s0 k < 1024 ∧ (0 < dear (pl_s na can af co dear s0 k) → dear (pl_s na can af co dear s0 (k + 1)) < dear (pl_s na can af co dear s0 k))) :
    ∃ m, m ≤ 1023 ∧ dear (pl_s na can af co dear s0 m) = 0 ∧ ∀ j, j < m → 0 < dear (pl_s na can af co dear s0 j) := by
  have fall : ∀ k, (∀ j, j < k → 0 < dear (pl_s na can af co dear s0 j)) → ∀ j, j < k → dear (pl_s na can af co dear s0 k) < dear (pl_s na can af co dear s0 j) := by
    intro k
    induction k with
    | zero => intro _ j hj; omega
    | succ k ih =>
      intro hk j hj
      have h1 := (hs k fun j hj => hk j (by omega)).2 (hk k (by omega))
      by_cases e : j = k
      · subst e; exact h1
      · have := ih (fun j hj => hk j (by omega)) j (by omega)
        omega
  have hex : ∃ m, dear (pl_s na can af co dear s0 m) = 0 := by
    by_cases q : ∃ m, dear (pl_s na can af co dear s0 m) = 0
    · exact q
    · exfalso
      have pos : ∀ j, 0 < dear (pl_s na can af co dear s0 j) := fun j => Nat.pos_of_ne_zero fun z => q ⟨j, z⟩
      have : ∀ k, dear (pl_s na can af co dear s0 k) + k ≤ dear (pl_s na can af co dear s0 0) := by
        intro k
        induction k with
        | zero => exact Nat.le_refl _
        | succ k ih =>
          have := (hs k fun j _ => pos j).2 (pos k)
          omega
      have := this (dear (pl_s na can af co dear s0 0) + 1)
      omega
  obtain ⟨m, hm, hl⟩ := pk_least _ hex
  have hpos : ∀ j, j < m → 0 < dear (pl_s na can af co dear s0 j) := fun j hj => Nat.pos_of_ne_zero (hl j hj)
  refine ⟨m, ?_, hm, hpos⟩
  have := gw_pigeon 1024 (n := m + 1) (o := pl_s na can af co dear s0) (fun i hi => (hs i fun j hj => hpos j (by omega)).1) (fun i j hi hj e => by
    by_cases z : i < j
    · have := fall j (fun t ht => hpos t (by omega)) i z
      rw [e] at this; omega
    · by_cases y : j < i
      · have := fall i (fun t ht => hpos t (by omega)) j y
        rw [e] at this; omega
      · omega)
  omega
end PL
end
section
/-! Contracts of the leaves: has, hasAll, orNone, and the task's reads. -/
set_option maxRecDepth 100000 in
set_option maxHeartbeats 4000000 in
theorem c_P_has (l : Launch) (D : va_G) (tys : List (ClassId × FieldType)) (ws : va_W) {S j : Nat} (hS : S < 2 ^ 31) (hj : j < 32) : zd_Ct l D classes tys gd_T y_P_has b_P_has 2 (some .boolean) (zd_rm 0) [.int (nI S), .int (nI j)] ws (zd_is (some (.int (nI (if S.testBit j = true then 1 else 0)))) ws) := by
  refine zd_met gd_all (by decide) rfl (Nat.le_of_ble_eq_true rfl) (fun Z E => ?_)
  show Z ws [some (.int (nI S)), some (.int (nI j))] 0 []
  refine zd_iload_n E (pc := 0) d_P_has_0 rfl ?_
  refine zd_iload_n E (pc := 1) d_P_has_1 rfl ?_
  refine zd_ishr E (pc := 2) d_P_has_2 ?_
  refine zd_iconst E (pc := 3) (v := (nI 1)) d_P_has_3 (by decide) ?_
  refine zd_iand E (pc := 4) d_P_has_4 ?_
  rw [bm_has hS hj]
  refine zd_bf_eq E (pc := 5) 12 d_P_has_5 (by decide) (fun h => ?_) (fun h => ?_)
  · refine zd_iconst E (pc := 12) (v := (nI 0)) d_P_has_12 (by decide) ?_
    exact zd_zret E (pc := 13) d_P_has_13 (by decide) ⟨by rw [if_neg h], rfl⟩
  · refine zd_iconst E (pc := 8) (v := (nI 1)) d_P_has_8 (by decide) ?_
    refine zd_goto E (pc := 9) 13 d_P_has_9 (by decide) ?_
    exact zd_zret E (pc := 13) d_P_has_13 (by decide) ⟨by rw [if_pos h], rfl⟩
set_option maxRecDepth 100000 in
set_option maxHeartbeats 4000000 in
theorem c_P_hasAll (l : Launch) (D : va_G) (tys : List (ClassId × FieldType)) (ws : va_W) {S M : Nat} (hM : M < 2 ^ 31) : zd_Ct l D classes tys gd_T y_P_hasAll b_P_hasAll 2 (some .boolean) (zd_rm 0) [.int (nI S), .int (nI M)] ws (zd_is (some (.int (nI (if S &&& M = M then 1 else 0)))) ws) := by
  refine zd_met gd_all (by decide) rfl (Nat.le_of_ble_eq_true rfl) (fun Z E => ?_)
  show Z ws [some (.int (nI S)), some (.int (nI M))] 0 []
  have hle : S &&& M ≤ M := Nat.and_le_right
  refine zd_iload_n E (pc := 0) d_P_hasAll_0 rfl ?_
  refine zd_iload_n E (pc := 1) d_P_hasAll_1 rfl ?_
  refine zd_iand E (pc := 2) d_P_hasAll_2 ?_
  rw [bm_and]
  refine zd_iload_n E (pc := 3) d_P_hasAll_3 rfl ?_
  refine zd_nc_ne E (pc := 4) 11 d_P_hasAll_4 (by decide) ((by omega)) (hM) (fun h => ?_) (fun h => ?_)
  · refine zd_iconst E (pc := 11) (v := (nI 0)) d_P_hasAll_11 (by decide) ?_
    exact zd_zret E (pc := 12) d_P_hasAll_12 (by decide) ⟨by rw [if_neg h], rfl⟩
  · refine zd_iconst E (pc := 7) (v := (nI 1)) d_P_hasAll_7 (by decide) ?_
    refine zd_goto E (pc := 8) 12 d_P_hasAll_8 (by decide) ?_
    exact zd_zret E (pc := 12) d_P_hasAll_12 (by decide) ⟨by rw [if_pos h], rfl⟩
set_option maxRecDepth 100000 in
set_option maxHeartbeats 4000000 in
theorem c_P_orNone (l : Launch) (D : va_G) (tys : List (ClassId × FieldType)) (ws : va_W) {x : Nat} (hx : x < 2 ^ 31) : zd_Ct l D classes tys gd_T y_P_orNone b_P_orNone 1 (some .int) (zd_rm 0) [.int (nI x)] ws (zd_is (some (.int (if 1000000 ≤ x then -1 else nI x))) ws) := by
  refine zd_met gd_all (by decide) rfl (Nat.le_of_ble_eq_true rfl) (fun Z E => ?_)
  show Z ws [some (.int (nI x))] 0 []
  refine zd_iload_n E (pc := 0) d_P_orNone_0 rfl ?_
  refine zd_ldc E (pc := 1) (v := (nI 1000000)) d_P_orNone_1 kk_P_184 ?_
  refine zd_nc_lt E (pc := 3) 10 d_P_orNone_3 (by decide) (hx) ((by decide)) (fun h => ?_) (fun h => ?_)
  · refine zd_iload_n E (pc := 10) d_P_orNone_10 rfl ?_
    exact zd_iret E (pc := 11) d_P_orNone_11 ⟨by rw [if_neg (by omega)], rfl⟩
  · refine zd_iconst E (pc := 6) (v := (-1)) d_P_orNone_6 (by decide) ?_
    refine zd_goto E (pc := 7) 11 d_P_orNone_7 (by decide) ?_
    exact zd_iret E (pc := 11) d_P_orNone_11 ⟨by rw [if_pos h], rfl⟩
section LF
variable {k : Nat → ClassId} {q : Nat → Nat} {v : Nat → Int32} {r : Nat → Nat → Int32} {ex : va_W}
set_option maxRecDepth 100000 in
set_option maxHeartbeats 4000000 in
theorem c_T_allows (l : Launch) (D : va_G) {s a : Nat} {ne : Nat → Nat} (ha : a < 12) (hne : ∀ i, i < 12 → r 4 i = nI (ne i) ∧ ne i < 2 ^ 31) : zd_Ct l D classes (wd_ty k) gd_T y_T_allows b_T_allows 3 (some .boolean) (zd_rm 1) [.ref (q 1), .int (nI a), .int (nI s)] (wd k q v r ex) (zd_is (some (.int (nI (if s &&& ne a = ne a then 1 else 0)))) (wd k q v r ex)) := by
  refine zd_met gd_all (by decide) rfl (Nat.le_of_ble_eq_true rfl) (fun Z E => ?_)
  show Z (wd k q v r ex) [some (.ref (q 1)), some (.int (nI a)), some (.int (nI s))] 0 []
  refine zd_iload_n E (pc := 0) d_T_allows_0 rfl ?_
  refine zd_aload_n E (pc := 1) d_T_allows_1 rfl ?_
  refine zd_get E (pc := 2) d_T_allows_2 kf_T_17 1 rfl rfl ?_
  refine zd_iconst E (pc := 5) (v := (nI 0)) d_T_allows_5 (by decide) ?_
  refine zd_aald E (pc := 6) d_T_allows_6 3 rfl (t0 := 2) rfl rfl (0) (rfl) (by decide) (by decide) rfl ?_
  refine zd_iload_n E (pc := 7) d_T_allows_7 rfl ?_
  refine zd_iald E (pc := 8) d_T_allows_8 4 rfl (t0 := 0) rfl (a) (rfl) (ha) (by decide) ?_
  rw [(hne a ha).1]
  refine zd_callS E (pc := 9) d_T_allows_9 kc_T_33 rfl ks_P_hasAll (c_P_hasAll l D _ _ (S := s) (hne a ha).2) (by decide) rfl (Nat.le_of_ble_eq_true rfl) (fun v1 ws1 hv1 => ?_)
  obtain ⟨rfl, rfl⟩ := hv1
  exact zd_zret E (pc := 12) d_T_allows_12 (by split <;> decide) ⟨rfl, rfl⟩
set_option maxRecDepth 100000 in
set_option maxHeartbeats 4000000 in
theorem c_T_after (l : Launch) (D : va_G) {s a : Nat} {ad dr : Nat → Nat} (ha : a < 12) (had : ∀ i, i < 12 → r 5 i = nI (ad i)) (hdr : ∀ i, i < 12 → r 6 i = nI (dr i)) : zd_Ct l D classes (wd_ty k) gd_T y_T_after b_T_after 3 (some .int) (zd_rm 0) [.ref (q 1), .int (nI a), .int (nI s)] (wd k q v r ex) (zd_is (some (.int (nI (bm_dif s (dr a) ||| ad a)))) (wd k q v r ex)) := by
  refine zd_met gd_all (by decide) rfl (Nat.le_of_ble_eq_true rfl) (fun Z E => ?_)
  show Z (wd k q v r ex) [some (.ref (q 1)), some (.int (nI a)), some (.int (nI s))] 0 []
  refine zd_iload_n E (pc := 0) d_T_after_0 rfl ?_
  refine zd_aload_n E (pc := 1) d_T_after_1 rfl ?_
  refine zd_get E (pc := 2) d_T_after_2 kf_T_17 1 rfl rfl ?_
  refine zd_iconst E (pc := 5) (v := (nI 2)) d_T_after_5 (by decide) ?_
  refine zd_aald E (pc := 6) d_T_after_6 3 rfl (t0 := 2) rfl rfl (2) (rfl) (by decide) (by decide) rfl ?_
  refine zd_iload_n E (pc := 7) d_T_after_7 rfl ?_
  refine zd_iald E (pc := 8) d_T_after_8 6 rfl (t0 := 0) rfl (a) (rfl) (ha) (by decide) ?_
  rw [hdr a ha]
  refine zd_iconst E (pc := 9) (v := (-1)) d_T_after_9 (by decide) ?_
  refine zd_ixor E (pc := 10) d_T_after_10 ?_
  refine zd_iand E (pc := 11) d_T_after_11 ?_
  rw [bm_dif32]
  refine zd_aload_n E (pc := 12) d_T_after_12 rfl ?_
  refine zd_get E (pc := 13) d_T_after_13 kf_T_17 1 rfl rfl ?_
  refine zd_iconst E (pc := 16) (v := (nI 1)) d_T_after_16 (by decide) ?_
  refine zd_aald E (pc := 17) d_T_after_17 3 rfl (t0 := 2) rfl rfl (1) (rfl) (by decide) (by decide) rfl ?_
  refine zd_iload_n E (pc := 18) d_T_after_18 rfl ?_
  refine zd_iald E (pc := 19) d_T_after_19 5 rfl (t0 := 0) rfl (a) (rfl) (ha) (by decide) ?_
  rw [had a ha]
  refine zd_ior E (pc := 20) d_T_after_20 ?_
  rw [bm_or]
  exact zd_iret E (pc := 21) d_T_after_21 ⟨rfl, rfl⟩
set_option maxRecDepth 100000 in
set_option maxHeartbeats 4000000 in
theorem c_T_isMet (l : Launch) (D : va_G) {s go : Nat} (hg : v 3 = nI go) (hgo : go < 2 ^ 31) : zd_Ct l D classes (wd_ty k) gd_T y_T_isMet b_T_isMet 2 (some .boolean) (zd_rm 1) [.ref (q 1), .int (nI s)] (wd k q v r ex) (zd_is (some (.int (nI (if s &&& go = go then 1 else 0)))) (wd k q v r ex)) := by
  refine zd_met gd_all (by decide) rfl (Nat.le_of_ble_eq_true rfl) (fun Z E => ?_)
  show Z (wd k q v r ex) [some (.ref (q 1)), some (.int (nI s))] 0 []
  refine zd_iload_n E (pc := 0) d_T_isMet_0 rfl ?_
  refine zd_aload_n E (pc := 1) d_T_isMet_1 rfl ?_
  refine zd_get E (pc := 2) d_T_isMet_2 kf_T_27 1 rfl rfl ?_
  rw [hg]
  refine zd_callS E (pc := 5) d_T_isMet_5 kc_T_33 rfl ks_P_hasAll (c_P_hasAll l D _ _ (S := s) hgo) (by decide) rfl (Nat.le_of_ble_eq_true rfl) (fun v1 ws1 hv1 => ?_)
  obtain ⟨rfl, rfl⟩ := hv1
  exact zd_zret E (pc := 8) d_T_isMet_8 (by split <;> decide) ⟨rfl, rfl⟩
end LF
end
section
/-! Contracts of the levels: joined, lower, baseOf. -/
def lm_lows (S x : Nat) (h : Nat → Nat) : Nat → Bool
  | 0 => false
  | i + 1 => lm_lows S x h i || decide (S.testBit i = true ∧ x < h i)
theorem lm_lows_no {S x : Nat} {h : Nat → Nat} : ∀ {n : Nat}, lm_lows S x h n = false → ∀ j, j < n → ¬ (S.testBit j = true ∧ x < h j)
  | 0, _, j, hj => by omega
  | n + 1, hl, j, hj => by
    unfold lm_lows at hl
    simp only [Bool.or_eq_false_iff, decide_eq_false_iff_not] at hl
    by_cases e : j = n
    · subst e; exact hl.2
    · exact lm_lows_no hl.1 j (by omega)
theorem lm_jp_bd {w : Bool} {h : Nat → Nat} {S B : Nat} : ∀ {n : Nat}, (∀ i, i < n → h i ≤ B) → lm_jp w h S n ≤ B * n
  | 0, _ => Nat.le_refl _
  | n + 1, hh => by
    have h1 := lm_jp_bd (w := w) (S := S) (n := n) fun i hi => hh i (by omega)
    have h2 := hh n (by omega)
    have h3 : B * (n + 1) = B * n + B := Nat.mul_succ B n
    rw [h3]
    unfold lm_jp
    split
    · split <;> omega
    · omega
section LV2
variable {k : Nat → ClassId} {q : Nat → Nat} {v : Nat → Int32} {r : Nat → Nat → Int32} {ex : va_W}
set_option maxRecDepth 100000 in
set_option maxHeartbeats 4000000 in
theorem c_V_joined (l : Launch) (D : va_G) {S : Nat} {w : Bool} {h : Nat → Nat} (hS : S < 2 ^ 31) (hh : ∀ i, i < 10 → r 17 i = nI (h i) ∧ h i ≤ 1000000) : zd_Ct l D classes (wd_ty k) gd_T y_V_joined b_V_joined 5 (some .int) (zd_rm 1) [.ref (q 16), .int (nI S), .int (nI (bm_b w))] (wd k q v r ex) (zd_is (some (.int (nI (lm_jn 1000000 w h S 10)))) (wd k q v r ex)) := by
  refine zd_met gd_all (by decide) rfl (Nat.le_of_ble_eq_true rfl) (fun Z E => ?_)
  show Z (wd k q v r ex) [some (.ref (q 16)), some (.int (nI S)), some (.int (nI (bm_b w))), none, none] 0 []
  have bd : ∀ i, i ≤ 10 → lm_jp w h S i ≤ 1000000 * i := fun i hi => lm_jp_bd fun j hj => (hh j (by omega)).2
  have loop : ∀ m i, i + m = 10 → Z (wd k q v r ex) [some (.ref (q 16)), some (.int (nI S)), some (.int (nI (bm_b w))), some (.int (nI (lm_jp w h S i))), some (.int (nI i))] 5 [] := by
    intro m
    induction m with
    | zero =>
      intro i hi
      have e : i = 10 := by omega
      subst e
      have b10 := bd 10 (Nat.le_refl _)
      refine zd_iload E (pc := 5) d_V_joined_5 rfl ?_
      refine zd_bipush E (pc := 7) (v := (nI 10)) d_V_joined_7 (by decide) ?_
      refine zd_nc_ge E (pc := 9) 55 d_V_joined_9 (by decide) ((by omega)) ((by omega)) (fun hc => ?_) (fun hc => ?_)
      · refine zd_iload_n E (pc := 55) d_V_joined_55 rfl ?_
        refine zd_ldc E (pc := 56) (v := (nI 1000000)) d_V_joined_56 kk_V_23 ?_
        refine zd_mmin E (pc := 58) d_V_joined_58 (gd_in2 32 (by decide +kernel) (by decide +kernel)) (gd_in2 33 (by decide +kernel) (by decide +kernel)) (gd_in1 15 (by decide +kernel) (by decide +kernel)) (gd_in2 34 (by decide +kernel) (by decide +kernel)) ⟨by decide, by decide⟩ (Nat.le_of_ble_eq_true rfl) ?_
        rw [bm_min (by omega) (by omega)]
        exact zd_iret E (pc := 61) d_V_joined_61 ⟨rfl, rfl⟩
      · omega
    | succ m ih =>
      intro i hi
      have bi := bd i (by omega)
      have hi10 : i < 10 := by omega
      obtain ⟨e1, e2⟩ := hh i hi10
      have tail : ∀ x, x = lm_jp w h S (i + 1) → Z (wd k q v r ex) [some (.ref (q 16)), some (.int (nI S)), some (.int (nI (bm_b w))), some (.int (nI x)), some (.int (nI i))] 49 [] := by
        intro x hx
        subst hx
        refine zd_iinc E (pc := 49) d_V_joined_49 rfl (bm_inc i) (by decide) ?_
        refine zd_goto E (pc := 52) 5 d_V_joined_52 (by decide) ?_
        exact ih (i + 1) (by omega)
      refine zd_iload E (pc := 5) d_V_joined_5 rfl ?_
      refine zd_bipush E (pc := 7) (v := (nI 10)) d_V_joined_7 (by decide) ?_
      refine zd_nc_ge E (pc := 9) 55 d_V_joined_9 (by decide) ((by omega)) ((by omega)) (fun hc => ?_) (fun hc => ?_)
      · omega
      · refine zd_iload_n E (pc := 12) d_V_joined_12 rfl ?_
        refine zd_iload E (pc := 13) d_V_joined_13 rfl ?_
        refine zd_callS E (pc := 15) d_V_joined_15 kc_V_19 rfl ks_P_has (c_P_has l D _ _ hS (show i < 32 by omega)) (by decide) rfl (Nat.le_of_ble_eq_true rfl) (fun v1 ws1 hv1 => ?_)
        obtain ⟨rfl, rfl⟩ := hv1
        refine zd_bf_eq E (pc := 18) 49 d_V_joined_18 (by decide) (fun hb => ?_) (fun hb => ?_)
        · exact tail _ (by rw [lm_jp, if_neg hb])
        · refine zd_iload_n E (pc := 21) d_V_joined_21 rfl ?_
          refine zd_bf_eq E (pc := 22) 37 d_V_joined_22 (by decide) (fun hw => ?_) (fun hw => ?_)
          · refine zd_iload_n E (pc := 37) d_V_joined_37 rfl ?_
            refine zd_aload_n E (pc := 38) d_V_joined_38 rfl ?_
            refine zd_get E (pc := 39) d_V_joined_39 kf_V_9 16 rfl rfl ?_
            refine zd_iload E (pc := 42) d_V_joined_42 rfl ?_
            refine zd_iald E (pc := 44) d_V_joined_44 17 rfl (t0 := 0) rfl (i) (rfl) (hi10) (by decide) ?_
            rw [e1]
            refine zd_mmax E (pc := 45) d_V_joined_45 (gd_in2 29 (by decide +kernel) (by decide +kernel)) (gd_in2 30 (by decide +kernel) (by decide +kernel)) (gd_in1 15 (by decide +kernel) (by decide +kernel)) (gd_in2 31 (by decide +kernel) (by decide +kernel)) ⟨by decide, by decide⟩ (Nat.le_of_ble_eq_true rfl) ?_
            rw [bm_max (by omega) (by omega)]
            refine zd_istore_n E (pc := 48) d_V_joined_48 (by decide) ?_
            exact tail _ (by rw [lm_jp, if_pos hb, if_neg hw])
          · refine zd_iload_n E (pc := 25) d_V_joined_25 rfl ?_
            refine zd_aload_n E (pc := 26) d_V_joined_26 rfl ?_
            refine zd_get E (pc := 27) d_V_joined_27 kf_V_9 16 rfl rfl ?_
            refine zd_iload E (pc := 30) d_V_joined_30 rfl ?_
            refine zd_iald E (pc := 32) d_V_joined_32 17 rfl (t0 := 0) rfl (i) (rfl) (hi10) (by decide) ?_
            rw [e1]
            refine zd_iadd E (pc := 33) d_V_joined_33 ?_
            rw [nI_add]
            refine zd_goto E (pc := 34) 48 d_V_joined_34 (by decide) ?_
            refine zd_istore_n E (pc := 48) d_V_joined_48 (by decide) ?_
            exact tail _ (by rw [lm_jp, if_pos hb, if_pos hw])
  refine zd_iconst E (pc := 0) (v := (nI 0)) d_V_joined_0 (by decide) ?_
  refine zd_istore_n E (pc := 1) d_V_joined_1 (by decide) ?_
  refine zd_iconst E (pc := 2) (v := (nI 0)) d_V_joined_2 (by decide) ?_
  refine zd_istore E (pc := 3) d_V_joined_3 (by decide) ?_
  exact loop 10 0 rfl
set_option maxRecDepth 100000 in
set_option maxHeartbeats 4000000 in
theorem c_V_lower (l : Launch) (D : va_G) {S x : Nat} {h : Nat → Nat} (hS : S < 2 ^ 31) (hx : x < 2 ^ 31) (hh : ∀ i, i < 10 → r 17 i = nI (h i) ∧ h i ≤ 1000000) : zd_Ct l D classes (wd_ty k) gd_T y_V_lower b_V_lower 5 (some .boolean) (zd_rm 1) [.ref (q 16), .int (nI S), .int (nI x)] (wd k q v r ex)
    (fun v1 w1 => ∃ r1 : Nat → Nat → Int32, (∀ i, i ≠ 17 → r1 i = r i) ∧ (∀ j, j < 10 → r1 17 j = nI (if S.testBit j = true ∧ x < h j then x else h j)) ∧ v1 = some (.int (nI (bm_b (lm_lows S x h 10)))) ∧ w1 = wd k q v r1 ex) := by
  refine zd_met gd_all (by decide) rfl (Nat.le_of_ble_eq_true rfl) (fun Z E => ?_)
  show Z (wd k q v r ex) [some (.ref (q 16)), some (.int (nI S)), some (.int (nI x)), none, none] 0 []
  have loop : ∀ m i (r1 : Nat → Nat → Int32), i + m = 10 → (∀ j, j ≠ 17 → r1 j = r j) → (∀ j, j < 10 → r1 17 j = nI (if j < i ∧ S.testBit j = true ∧ x < h j then x else h j)) → Z (wd k q v r1 ex) [some (.ref (q 16)), some (.int (nI S)), some (.int (nI x)), some (.int (nI (bm_b (lm_lows S x h i)))), some (.int (nI i))] 5 [] := by
    intro m
    induction m with
    | zero =>
      intro i r1 hi hf ha
      have e : i = 10 := by omega
      subst e
      refine zd_iload E (pc := 5) d_V_lower_5 rfl ?_
      refine zd_bipush E (pc := 7) (v := (nI 10)) d_V_lower_7 (by decide) ?_
      refine zd_nc_ge E (pc := 9) 48 d_V_lower_9 (by decide) ((by omega)) ((by omega)) (fun hc => ?_) (fun hc => ?_)
      · refine zd_iload_n E (pc := 48) d_V_lower_48 rfl ?_
        exact zd_zret E (pc := 49) d_V_lower_49 (bm_zn _) ⟨r1, hf, fun j hj => by rw [ha j hj]; simp [hj], rfl, rfl⟩
      · omega
    | succ m ih =>
      intro i r1 hi hf ha
      have hi10 : i < 10 := by omega
      obtain ⟨e1, e2⟩ := hh i hi10
      have hai : r1 17 i = nI (h i) := by rw [ha i hi10, if_neg (by omega)]
      have tail : ∀ (r2 : Nat → Nat → Int32) (b : Nat), (∀ j, j ≠ 17 → r2 j = r j) → (∀ j, j < 10 → r2 17 j = nI (if j < i + 1 ∧ S.testBit j = true ∧ x < h j then x else h j)) → b = bm_b (lm_lows S x h (i + 1)) → Z (wd k q v r2 ex) [some (.ref (q 16)), some (.int (nI S)), some (.int (nI x)), some (.int (nI b)), some (.int (nI i))] 42 [] := by
        intro r2 b hf2 ha2 hb2
        subst hb2
        refine zd_iinc E (pc := 42) d_V_lower_42 rfl (bm_inc i) (by decide) ?_
        refine zd_goto E (pc := 45) 5 d_V_lower_45 (by decide) ?_
        exact ih (i + 1) r2 (by omega) hf2 ha2
      have same : ¬ (S.testBit i = true ∧ x < h i) → (∀ j, j < 10 → r1 17 j = nI (if j < i + 1 ∧ S.testBit j = true ∧ x < h j then x else h j)) ∧ bm_b (lm_lows S x h i) = bm_b (lm_lows S x h (i + 1)) := by
        intro hn
        refine ⟨fun j hj => ?_, ?_⟩
        · rw [ha j hj]
          by_cases e : j = i
          · subst e
            rw [if_neg (fun z => hn z.2), if_neg (fun z => hn z.2)]
          · have : (j < i ∧ S.testBit j = true ∧ x < h j) ↔ (j < i + 1 ∧ S.testBit j = true ∧ x < h j) := by
              constructor
              · rintro ⟨a, b⟩; exact ⟨by omega, b⟩
              · rintro ⟨a, b⟩; exact ⟨by omega, b⟩
            simp only [this]
        · show _ = bm_b (lm_lows S x h i || decide (S.testBit i = true ∧ x < h i))
          rw [decide_eq_false hn, Bool.or_false]
      refine zd_iload E (pc := 5) d_V_lower_5 rfl ?_
      refine zd_bipush E (pc := 7) (v := (nI 10)) d_V_lower_7 (by decide) ?_
      refine zd_nc_ge E (pc := 9) 48 d_V_lower_9 (by decide) ((by omega)) ((by omega)) (fun hc => ?_) (fun hc => ?_)
      · omega
      · refine zd_iload_n E (pc := 12) d_V_lower_12 rfl ?_
        refine zd_iload E (pc := 13) d_V_lower_13 rfl ?_
        refine zd_callS E (pc := 15) d_V_lower_15 kc_V_19 rfl ks_P_has (c_P_has l D _ _ hS (show i < 32 by omega)) (by decide) rfl (Nat.le_of_ble_eq_true rfl) (fun v1 ws1 hv1 => ?_)
        obtain ⟨rfl, rfl⟩ := hv1
        refine zd_bf_eq E (pc := 18) 42 d_V_lower_18 (by decide) (fun hb => ?_) (fun hb => ?_)
        · obtain ⟨s1, s2⟩ := same (fun z => hb z.1)
          exact tail r1 _ hf s1 s2
        · refine zd_iload_n E (pc := 21) d_V_lower_21 rfl ?_
          refine zd_aload_n E (pc := 22) d_V_lower_22 rfl ?_
          refine zd_get E (pc := 23) d_V_lower_23 kf_V_9 16 rfl rfl ?_
          refine zd_iload E (pc := 26) d_V_lower_26 rfl ?_
          refine zd_iald E (pc := 28) d_V_lower_28 17 rfl (t0 := 0) rfl (i) (rfl) (hi10) (by decide) ?_
          rw [hai]
          refine zd_nc_ge E (pc := 29) 42 d_V_lower_29 (by decide) (hx) ((by omega)) (fun hl => ?_) (fun hl => ?_)
          · obtain ⟨s1, s2⟩ := same (fun z => by omega)
            exact tail r1 _ hf s1 s2
          · refine zd_aload_n E (pc := 32) d_V_lower_32 rfl ?_
            refine zd_get E (pc := 33) d_V_lower_33 kf_V_9 16 rfl rfl ?_
            refine zd_iload E (pc := 36) d_V_lower_36 rfl ?_
            refine zd_iload_n E (pc := 38) d_V_lower_38 rfl ?_
            refine zd_iast E (pc := 39) d_V_lower_39 17 rfl (t0 := 0) rfl (i) (rfl) (hi10) (by decide) (ws1 := wd k q v (va_up r1 17 (upd (r1 17) i (nI x))) ex) rfl ?_
            refine zd_iconst E (pc := 40) (v := (nI 1)) d_V_lower_40 (by decide) ?_
            refine zd_istore_n E (pc := 41) d_V_lower_41 (by decide) ?_
            refine tail _ 1 (fun j hj => by rw [va_up_ne _ _ hj]; exact hf j hj) (fun j hj => ?_) ?_
            · rw [va_up_self]
              by_cases e : j = i
              · subst e
                rw [pk_us, if_pos ⟨by omega, hb, hl⟩]
              · rw [pk_un e, ha j hj]
                have : (j < i ∧ S.testBit j = true ∧ x < h j) ↔ (j < i + 1 ∧ S.testBit j = true ∧ x < h j) := by
                  constructor
                  · rintro ⟨a, b⟩; exact ⟨by omega, b⟩
                  · rintro ⟨a, b⟩; exact ⟨by omega, b⟩
                simp only [this]
            · show 1 = bm_b (lm_lows S x h i || decide (S.testBit i = true ∧ x < h i))
              rw [decide_eq_true ⟨hb, hl⟩, Bool.or_true]
              rfl
  refine zd_iconst E (pc := 0) (v := (nI 0)) d_V_lower_0 (by decide) ?_
  refine zd_istore_n E (pc := 1) d_V_lower_1 (by decide) ?_
  refine zd_iconst E (pc := 2) (v := (nI 0)) d_V_lower_2 (by decide) ?_
  refine zd_istore E (pc := 3) d_V_lower_3 (by decide) ?_
  exact loop 10 0 r rfl (fun _ _ => rfl) (fun j hj => by rw [(hh j hj).1, if_neg (by omega)])
end LV2
end
section
/-! Contracts of the levels: baseOf and measure. -/
theorem lm_px_congr {K : Nat} {w : Bool} {n na : Nat} {c ne ad : Nat → Nat} {bar : Nat → Bool} {Y V : Nat → Nat} (h : ∀ f, f < n → Y f = V f) (hp : lm_px K w n na c ne ad bar Y) : lm_px K w n na c ne ad bar V := by
  intro a f ha hb hf hq
  have := hp a f ha hb hf hq
  rw [h f hf, lm_jn_congr (fun g hg _ => h g hg)] at this
  exact this
/-- of the facts below i: none, or the least with the greatest level -/
def cu_Bp (h : Nat → Nat) (S i b : Nat) (g : Int32) : Prop := (b = 10 ∧ g = -1 ∧ ∀ f, f < i → S.testBit f = false) ∨ (b < i ∧ S.testBit b = true ∧ (∀ f, f < i → S.testBit f = true → h f ≤ h b) ∧ (∀ f, f < b → S.testBit f = true → h f < h b) ∧ g = nI (h b))
section MS
variable {k : Nat → ClassId} {q : Nat → Nat} {v : Nat → Int32} {r : Nat → Nat → Int32} {ex : va_W}
set_option maxRecDepth 100000 in
set_option maxHeartbeats 4000000 in
theorem c_V_baseOf (l : Launch) (D : va_G) {S : Nat} {h : Nat → Nat} (hS : S < 2 ^ 31) (hh : ∀ i, i < 10 → r 17 i = nI (h i) ∧ h i ≤ 1000000) : zd_Ct l D classes (wd_ty k) gd_T y_V_baseOf b_V_baseOf 5 (some .int) (zd_rm 1) [.ref (q 16), .int (nI S)] (wd k q v r ex)
    (fun v1 w1 => ∃ b, cu_B h S 10 b ∧ v1 = some (.int (if 1000000 ≤ lm_jn 1000000 false h S 10 then -1 else nI b)) ∧ w1 = wd k q v r ex) := by
  refine zd_met gd_all (by decide) rfl (Nat.le_of_ble_eq_true rfl) (fun Z E => ?_)
  show Z (wd k q v r ex) [some (.ref (q 16)), some (.int (nI S)), none, none, none] 0 []
  have loop : ∀ m i b g, i + m = 10 → cu_Bp h S i b g → Z (wd k q v r ex) [some (.ref (q 16)), some (.int (nI S)), some (.int (nI b)), some (.int g), some (.int (nI i))] 8 [] := by
    intro m
    induction m with
    | zero =>
      intro i b g hi hb
      have e : i = 10 := by omega
      subst e
      refine zd_iload E (pc := 8) d_V_baseOf_8 rfl ?_
      refine zd_bipush E (pc := 10) (v := (nI 10)) d_V_baseOf_10 (by decide) ?_
      refine zd_nc_ge E (pc := 12) 52 d_V_baseOf_12 (by decide) ((by omega)) ((by omega)) (fun hc => ?_) (fun hc => ?_)
      · refine zd_iload_n E (pc := 52) d_V_baseOf_52 rfl ?_
        refine zd_ldc E (pc := 53) (v := (nI 1000000)) d_V_baseOf_53 kk_V_23 ?_
        rcases hb with ⟨hb, hg, hn⟩ | ⟨b1, b2, b3, b4, hg⟩
        · subst hg
          subst hb
          have hj : lm_jn 1000000 false h S 10 = 0 := by unfold lm_jn; rw [cu_jp_0 hn]; rfl
          refine zd_ic_lt E (pc := 55) 62 d_V_baseOf_55 (by decide) (fun hd => ?_) (fun hd => ?_)
          · refine zd_iload_n E (pc := 62) d_V_baseOf_62 rfl ?_
            exact zd_iret E (pc := 63) d_V_baseOf_63 ⟨10, Or.inl ⟨rfl, hn⟩, by rw [hj, if_neg (by omega)], rfl⟩
          · exact absurd (bm_m1lt (by omega)) hd
        · subst hg
          have hj : lm_jn 1000000 false h S 10 = h b := by unfold lm_jn; rw [cu_B_jp b1 b2 b3]; have := (hh b b1).2; omega
          have hbb := (hh b b1).2
          refine zd_nc_lt E (pc := 55) 62 d_V_baseOf_55 (by decide) ((by omega)) ((by omega)) (fun hd => ?_) (fun hd => ?_)
          · refine zd_iload_n E (pc := 62) d_V_baseOf_62 rfl ?_
            exact zd_iret E (pc := 63) d_V_baseOf_63 ⟨b, Or.inr ⟨b1, b2, b3, b4⟩, by rw [hj, if_neg (by omega)], rfl⟩
          · refine zd_iconst E (pc := 58) (v := (-1)) d_V_baseOf_58 (by decide) ?_
            refine zd_goto E (pc := 59) 63 d_V_baseOf_59 (by decide) ?_
            exact zd_iret E (pc := 63) d_V_baseOf_63 ⟨b, Or.inr ⟨b1, b2, b3, b4⟩, by rw [hj, if_pos hd], rfl⟩
      · omega
    | succ m ih =>
      intro i b g hi hb
      have hi10 : i < 10 := by omega
      obtain ⟨e1, e2⟩ := hh i hi10
      have tail : ∀ b g, cu_Bp h S (i + 1) b g → Z (wd k q v r ex) [some (.ref (q 16)), some (.int (nI S)), some (.int (nI b)), some (.int g), some (.int (nI i))] 46 [] := by
        intro b g hb
        refine zd_iinc E (pc := 46) d_V_baseOf_46 rfl (bm_inc i) (by decide) ?_
        refine zd_goto E (pc := 49) 8 d_V_baseOf_49 (by decide) ?_
        exact ih (i + 1) b g (by omega) hb
      have take : S.testBit i = true → (∀ f, f < i → S.testBit f = true → h f < h i) → cu_Bp h S (i + 1) i (nI (h i)) := fun hs hm => by
        refine Or.inr ⟨by omega, hs, fun f hf hb => ?_, fun f hf hb => hm f hf hb, rfl⟩
        by_cases e : f = i
        · subst e; exact Nat.le_refl _
        · exact Nat.le_of_lt (hm f (by omega) hb)
      refine zd_iload E (pc := 8) d_V_baseOf_8 rfl ?_
      refine zd_bipush E (pc := 10) (v := (nI 10)) d_V_baseOf_10 (by decide) ?_
      refine zd_nc_ge E (pc := 12) 52 d_V_baseOf_12 (by decide) ((by omega)) ((by omega)) (fun hc => ?_) (fun hc => ?_)
      · omega
      · refine zd_iload_n E (pc := 15) d_V_baseOf_15 rfl ?_
        refine zd_iload E (pc := 16) d_V_baseOf_16 rfl ?_
        refine zd_callS E (pc := 18) d_V_baseOf_18 kc_V_19 rfl ks_P_has (c_P_has l D _ _ hS (show i < 32 by omega)) (by decide) rfl (Nat.le_of_ble_eq_true rfl) (fun v1 ws1 hv1 => ?_)
        obtain ⟨rfl, rfl⟩ := hv1
        refine zd_bf_eq E (pc := 21) 46 d_V_baseOf_21 (by decide) (fun hs => ?_) (fun hs => ?_)
        · refine tail b g ?_
          have hs0 : S.testBit i = false := by simpa using hs
          rcases hb with ⟨hb, hg, hn⟩ | ⟨b1, b2, b3, b4, hg⟩
          · refine Or.inl ⟨hb, hg, fun f hf => ?_⟩
            by_cases e : f = i
            · subst e; exact hs0
            · exact hn f (by omega)
          · refine Or.inr ⟨by omega, b2, fun f hf hbf => ?_, b4, hg⟩
            by_cases e : f = i
            · subst e; rw [hs0] at hbf; cases hbf
            · exact b3 f (by omega) hbf
        · refine zd_aload_n E (pc := 24) d_V_baseOf_24 rfl ?_
          refine zd_get E (pc := 25) d_V_baseOf_25 kf_V_9 16 rfl rfl ?_
          refine zd_iload E (pc := 28) d_V_baseOf_28 rfl ?_
          refine zd_iald E (pc := 30) d_V_baseOf_30 17 rfl (t0 := 0) rfl (i) (rfl) (hi10) (by decide) ?_
          rw [e1]
          refine zd_iload_n E (pc := 31) d_V_baseOf_31 rfl ?_
          rcases hb with ⟨hb, hg, hn⟩ | ⟨b1, b2, b3, b4, hg⟩
          · subst hg
            refine zd_ic_le E (pc := 32) 46 d_V_baseOf_32 (by decide) (fun hd => ?_) (fun hd => ?_)
            · exact absurd hd (bm_nle (by omega))
            · refine zd_iload E (pc := 35) d_V_baseOf_35 rfl ?_
              refine zd_istore_n E (pc := 37) d_V_baseOf_37 (by decide) ?_
              refine zd_aload_n E (pc := 38) d_V_baseOf_38 rfl ?_
              refine zd_get E (pc := 39) d_V_baseOf_39 kf_V_9 16 rfl rfl ?_
              refine zd_iload E (pc := 42) d_V_baseOf_42 rfl ?_
              refine zd_iald E (pc := 44) d_V_baseOf_44 17 rfl (t0 := 0) rfl (i) (rfl) (hi10) (by decide) ?_
              rw [e1]
              refine zd_istore_n E (pc := 45) d_V_baseOf_45 (by decide) ?_
              exact tail i _ (take hs (fun f hf hb => by rw [hn f hf] at hb; cases hb))
          · subst hg
            have hbb := (hh b (by omega)).2
            refine zd_nc_le E (pc := 32) 46 d_V_baseOf_32 (by decide) ((by omega)) ((by omega)) (fun hd => ?_) (fun hd => ?_)
            · refine tail b _ (Or.inr ⟨by omega, b2, fun f hf hbf => ?_, b4, rfl⟩)
              by_cases e : f = i
              · subst e; exact hd
              · exact b3 f (by omega) hbf
            · refine zd_iload E (pc := 35) d_V_baseOf_35 rfl ?_
              refine zd_istore_n E (pc := 37) d_V_baseOf_37 (by decide) ?_
              refine zd_aload_n E (pc := 38) d_V_baseOf_38 rfl ?_
              refine zd_get E (pc := 39) d_V_baseOf_39 kf_V_9 16 rfl rfl ?_
              refine zd_iload E (pc := 42) d_V_baseOf_42 rfl ?_
              refine zd_iald E (pc := 44) d_V_baseOf_44 17 rfl (t0 := 0) rfl (i) (rfl) (hi10) (by decide) ?_
              rw [e1]
              refine zd_istore_n E (pc := 45) d_V_baseOf_45 (by decide) ?_
              exact tail i _ (take hs (fun f hf hb => by have := b3 f hf hb; omega))
  refine zd_bipush E (pc := 0) (v := (nI 10)) d_V_baseOf_0 (by decide) ?_
  refine zd_istore_n E (pc := 2) d_V_baseOf_2 (by decide) ?_
  refine zd_iconst E (pc := 3) (v := (-1)) d_V_baseOf_3 (by decide) ?_
  refine zd_istore_n E (pc := 4) d_V_baseOf_4 (by decide) ?_
  refine zd_iconst E (pc := 5) (v := (nI 0)) d_V_baseOf_5 (by decide) ?_
  refine zd_istore E (pc := 6) d_V_baseOf_6 (by decide) ?_
  exact loop 10 0 10 _ rfl (Or.inl ⟨rfl, rfl, fun f hf => by omega⟩)
set_option maxRecDepth 100000 in
set_option maxHeartbeats 4000000 in
theorem c_V_measure2 (l : Launch) (D : va_G) {s B na : Nat} {w : Bool} {c ne ad : Nat → Nat} (hs : s < 2 ^ 31) (hB : B < 2 ^ 31) (hv1 : v 1 = nI na) (hna : na ≤ 12) (hc : ∀ i, i < 12 → r 2 i = nI (c i) ∧ c i ≤ 9) (hne : ∀ i, i < 12 → r 4 i = nI (ne i) ∧ ne i < 2 ^ 31) (had : ∀ i, i < 12 → r 5 i = nI (ad i) ∧ ad i < 2 ^ 31) :
    zd_Ct l D classes (wd_ty k) gd_T y_V_measure b_V_measure 9 none (zd_rm 2) [.ref (q 16), .int (nI s), .ref (q 2), .int (nI (bm_b w)), .int (nI B)] (wd k q v r ex)
    (fun v1 w1 => ∃ r1 : Nat → Nat → Int32, (∀ i, i ≠ 17 → r1 i = r i) ∧ (∀ j, j < 10 → r1 17 j = nI (lm_it 1000000 w 10 na c ne ad (fun a => B.testBit a) (lm_i0 1000000 s) 10 j)) ∧ v1 = none ∧ w1 = wd k q v r1 ex) := by
  generalize hbar : (fun a => B.testBit a) = bar
  refine zd_met gd_all (by decide) rfl (Nat.le_of_ble_eq_true rfl) (fun Z E => ?_)
  show Z (wd k q v r ex) [some (.ref (q 16)), some (.int (nI s)), some (.ref (q 2)), some (.int (nI (bm_b w))), some (.int (nI B)), none, none, none, none] 0 []
  have hbar1 : ∀ a, bar a = B.testBit a := fun a => by rw [← hbar]
  have itK : ∀ t j, lm_it 1000000 w 10 na c ne ad bar (lm_i0 1000000 s) t j ≤ 1000000 := fun t j => Nat.le_trans (lm_it_le _ _ _) (lm_i0_le _ _ _)
  have rdK : ∀ t a j, lm_rd 1000000 w 10 c ne ad bar (lm_it 1000000 w 10 na c ne ad bar (lm_i0 1000000 s) t) a j ≤ 1000000 := fun t a j => Nat.le_trans (lm_rd_le _ _ _) (itK t j)
  have acts : ∀ n7 t a b5 r1 L8, a + n7 = na → (∀ j, j ≠ 17 → r1 j = r j) → (∀ j, j < 10 → r1 17 j = nI (lm_rd 1000000 w 10 c ne ad bar (lm_it 1000000 w 10 na c ne ad bar (lm_i0 1000000 s) t) a j)) → (b5 = false → ∀ j, j < 10 → lm_rd 1000000 w 10 c ne ad bar (lm_it 1000000 w 10 na c ne ad bar (lm_i0 1000000 s) t) a j = lm_it 1000000 w 10 na c ne ad bar (lm_i0 1000000 s) t j) →
      (∀ r2 b5 L8, (∀ j, j ≠ 17 → r2 j = r j) → (∀ j, j < 10 → r2 17 j = nI (lm_it 1000000 w 10 na c ne ad bar (lm_i0 1000000 s) (t + 1) j)) → (b5 = false → lm_px 1000000 w 10 na c ne ad bar (lm_it 1000000 w 10 na c ne ad bar (lm_i0 1000000 s) (t + 1))) → Z (wd k q v r2 ex) [some (.ref (q 16)), some (.int (nI s)), some (.ref (q 2)), some (.int (nI (bm_b w))), some (.int (nI B)), some (.int (nI (bm_b b5))), some (.int (nI t)), none, L8] 137 []) →
      Z (wd k q v r1 ex) [some (.ref (q 16)), some (.int (nI s)), some (.ref (q 2)), some (.int (nI (bm_b w))), some (.int (nI B)), some (.int (nI (bm_b b5))), some (.int (nI t)), some (.int (nI a)), L8] 62 [] := by
    intro n7
    induction n7 with
    | zero =>
      intro t a b5 r1 L8 ha hf hr hb5 kk
      have e : a = na := by omega
      subst e
      refine zd_iload E (pc := 62) d_V_measure_62 rfl ?_
      refine zd_aload_n E (pc := 64) d_V_measure_64 rfl ?_
      refine zd_get E (pc := 65) d_V_measure_65 kf_V_15 16 rfl rfl ?_
      refine zd_get E (pc := 68) d_V_measure_68 kf_V_24 1 rfl rfl ?_
      rw [hv1]
      refine zd_nc_ge E (pc := 71) 137 d_V_measure_71 (by decide) ((by omega)) ((by omega)) (fun hq => ?_) (fun hq => ?_)
      · refine zd_less E ?_ (kk r1 b5 L8 hf hr (fun hb => ?_))
        · cases L8 <;> exact ⟨rfl, rfl, rfl, rfl, rfl, rfl, rfl, by first | exact trivial | exact ⟨rfl, trivial⟩⟩
        · have h1 := hb5 hb
          exact lm_px_congr (fun f hf => (h1 f hf).symm) (lm_rd_fix h1)
      · omega
    | succ n7 ih =>
      intro t a b5 r1 L8 ha hf hr hb5 kk
      have ha12 : a < 12 := by omega
      have f4 : r1 4 = r 4 := hf 4 (by decide)
      have f5 : r1 5 = r 5 := hf 5 (by decide)
      have fc : r1 2 = r 2 := hf 2 (by decide)
      obtain ⟨c1, c2⟩ := hc a ha12
      obtain ⟨n1, n2⟩ := hne a ha12
      obtain ⟨a1, a2⟩ := had a ha12
      have tail : ∀ r2 b5 L8, (∀ j, j ≠ 17 → r2 j = r j) → (∀ j, j < 10 → r2 17 j = nI (lm_rd 1000000 w 10 c ne ad bar (lm_it 1000000 w 10 na c ne ad bar (lm_i0 1000000 s) t) (a + 1) j)) → (b5 = false → ∀ j, j < 10 → lm_rd 1000000 w 10 c ne ad bar (lm_it 1000000 w 10 na c ne ad bar (lm_i0 1000000 s) t) (a + 1) j = lm_it 1000000 w 10 na c ne ad bar (lm_i0 1000000 s) t j) →
          Z (wd k q v r2 ex) [some (.ref (q 16)), some (.int (nI s)), some (.ref (q 2)), some (.int (nI (bm_b w))), some (.int (nI B)), some (.int (nI (bm_b b5))), some (.int (nI t)), some (.int (nI a)), L8] 131 [] := by
        intro r2 b5 L8 hf2 hr2 hb
        refine zd_iinc E (pc := 131) d_V_measure_131 rfl (bm_inc a) (by decide) ?_
        refine zd_goto E (pc := 134) 62 d_V_measure_134 (by decide) ?_
        exact ih t (a + 1) b5 r2 L8 (by omega) hf2 hr2 hb kk
      refine zd_iload E (pc := 62) d_V_measure_62 rfl ?_
      refine zd_aload_n E (pc := 64) d_V_measure_64 rfl ?_
      refine zd_get E (pc := 65) d_V_measure_65 kf_V_15 16 rfl rfl ?_
      refine zd_get E (pc := 68) d_V_measure_68 kf_V_24 1 rfl rfl ?_
      rw [hv1]
      refine zd_nc_ge E (pc := 71) 137 d_V_measure_71 (by decide) ((by omega)) ((by omega)) (fun hq => ?_) (fun hq => ?_)
      · omega
      · refine zd_iload E (pc := 74) d_V_measure_74 rfl ?_
        refine zd_iload E (pc := 76) d_V_measure_76 rfl ?_
        refine zd_callS E (pc := 78) d_V_measure_78 kc_V_19 rfl ks_P_has (c_P_has l D _ _ hB (show a < 32 by omega)) (by decide) rfl (Nat.le_of_ble_eq_true rfl) (fun v1 ws1 hv1 => ?_)
        obtain ⟨rfl, rfl⟩ := hv1
        refine zd_bf_ne E (pc := 81) 131 d_V_measure_81 (by decide) (fun hbit => ?_) (fun hbit => ?_)
        · have e : ∀ j, lm_rd 1000000 w 10 c ne ad bar (lm_it 1000000 w 10 na c ne ad bar (lm_i0 1000000 s) t) (a + 1) j = lm_rd 1000000 w 10 c ne ad bar (lm_it 1000000 w 10 na c ne ad bar (lm_i0 1000000 s) t) a j := fun j => by
            rw [lm_rd, if_pos (by rw [hbar1]; exact hbit)]
          exact tail r1 b5 L8 hf (fun j hj => by rw [e]; exact hr j hj) (fun hb j hj => by rw [e]; exact hb5 hb j hj)
        · refine zd_aload_n E (pc := 84) d_V_measure_84 rfl ?_
          refine zd_iload E (pc := 85) d_V_measure_85 rfl ?_
          refine zd_iald E (pc := 87) d_V_measure_87 2 rfl (t0 := 0) rfl (a) (rfl) (ha12) (by decide) ?_
          rw [fc, c1]
          refine zd_aload_n E (pc := 88) d_V_measure_88 rfl ?_
          refine zd_aload_n E (pc := 89) d_V_measure_89 rfl ?_
          refine zd_get E (pc := 90) d_V_measure_90 kf_V_15 16 rfl rfl ?_
          refine zd_get E (pc := 93) d_V_measure_93 kf_V_30 1 rfl rfl ?_
          refine zd_iconst E (pc := 96) (v := (nI 0)) d_V_measure_96 (by decide) ?_
          refine zd_aald E (pc := 97) d_V_measure_97 3 rfl (t0 := 2) rfl rfl (0) (rfl) (by decide) (by decide) rfl ?_
          refine zd_iload E (pc := 98) d_V_measure_98 rfl ?_
          refine zd_iald E (pc := 100) d_V_measure_100 4 rfl (t0 := 0) rfl (a) (rfl) (ha12) (by decide) ?_
          rw [f4, n1]
          refine zd_iload_n E (pc := 101) d_V_measure_101 rfl ?_
          refine zd_callV E (pc := 102) d_V_measure_102 kc_V_34 rfl ki_V_joined ke_V_joined 16 rfl rfl (c_V_joined l D n2 (fun i hi => ⟨hr i hi, rdK t a i⟩)) (by decide) rfl (Nat.le_of_ble_eq_true rfl) (fun v1 ws1 hv1 => ?_)
          obtain ⟨rfl, rfl⟩ := hv1
          refine zd_iadd E (pc := 105) d_V_measure_105 ?_
          rw [nI_add]
          refine zd_istore E (pc := 106) d_V_measure_106 (by decide) ?_
          refine zd_iload E (pc := 108) d_V_measure_108 rfl ?_
          refine zd_aload_n E (pc := 110) d_V_measure_110 rfl ?_
          refine zd_aload_n E (pc := 111) d_V_measure_111 rfl ?_
          refine zd_get E (pc := 112) d_V_measure_112 kf_V_15 16 rfl rfl ?_
          refine zd_get E (pc := 115) d_V_measure_115 kf_V_30 1 rfl rfl ?_
          refine zd_iconst E (pc := 118) (v := (nI 1)) d_V_measure_118 (by decide) ?_
          refine zd_aald E (pc := 119) d_V_measure_119 3 rfl (t0 := 2) rfl rfl (1) (rfl) (by decide) (by decide) rfl ?_
          refine zd_iload E (pc := 120) d_V_measure_120 rfl ?_
          refine zd_iald E (pc := 122) d_V_measure_122 5 rfl (t0 := 0) rfl (a) (rfl) (ha12) (by decide) ?_
          rw [f5, a1]
          refine zd_iload E (pc := 123) d_V_measure_123 rfl ?_
          have jle := lm_jn_le 1000000 w (lm_rd 1000000 w 10 c ne ad bar (lm_it 1000000 w 10 na c ne ad bar (lm_i0 1000000 s) t) a) (ne a) 10
          refine zd_callV E (pc := 125) d_V_measure_125 kc_V_38 rfl ki_V_lower ke_V_lower 16 rfl rfl (c_V_lower l D a2 (by omega) (fun i hi => ⟨hr i hi, rdK t a i⟩)) (by decide) rfl (Nat.le_of_ble_eq_true rfl) (fun v1 ws1 hv1 => ?_)
          obtain ⟨r2, hf2, hr2, rfl, rfl⟩ := hv1
          refine zd_ior E (pc := 128) d_V_measure_128 ?_
          rw [bm_orb]
          refine zd_istore E (pc := 129) d_V_measure_129 (by decide) ?_
          have e : ∀ j, lm_rd 1000000 w 10 c ne ad bar (lm_it 1000000 w 10 na c ne ad bar (lm_i0 1000000 s) t) (a + 1) j = lm_act 1000000 w 10 c ne ad a (lm_rd 1000000 w 10 c ne ad bar (lm_it 1000000 w 10 na c ne ad bar (lm_i0 1000000 s) t) a) j := fun j => by
            rw [lm_rd, if_neg (by rw [hbar1]; exact hbit)]
          refine tail r2 _ _ (fun j hj => (hf2 j hj).trans (hf j hj)) (fun j hj => by rw [e]; exact hr2 j hj) (fun hb j hj => ?_)
          simp only [Bool.or_eq_false_iff] at hb
          rw [e]
          unfold lm_act
          rw [if_neg (lm_lows_no hb.2 j hj)]
          exact hb5 hb.1 j hj
  have rounds : ∀ n6 t b5 r1 L7 L8, t + n6 = 10 → (∀ j, j ≠ 17 → r1 j = r j) → (∀ j, j < 10 → r1 17 j = nI (lm_it 1000000 w 10 na c ne ad bar (lm_i0 1000000 s) t j)) → (b5 = false → lm_px 1000000 w 10 na c ne ad bar (lm_it 1000000 w 10 na c ne ad bar (lm_i0 1000000 s) t)) →
      Z (wd k q v r1 ex) [some (.ref (q 16)), some (.int (nI s)), some (.ref (q 2)), some (.int (nI (bm_b w))), some (.int (nI B)), some (.int (nI (bm_b b5))), some (.int (nI t)), L7, L8] 44 [] := by
    intro n6
    induction n6 with
    | zero =>
      intro t b5 r1 L7 L8 ht hf hr hb5
      have e : t = 10 := by omega
      subst e
      refine zd_iload E (pc := 44) d_V_measure_44 rfl ?_
      refine zd_bipush E (pc := 46) (v := (nI 10)) d_V_measure_46 (by decide) ?_
      refine zd_nc_ge E (pc := 48) 143 d_V_measure_48 (by decide) ((by omega)) ((by omega)) (fun hq => ?_) (fun hq => ?_)
      · exact zd_vret E (pc := 143) d_V_measure_143 ⟨r1, hf, hr, rfl, rfl⟩
      · omega
    | succ n6 ih =>
      intro t b5 r1 L7 L8 ht hf hr hb5
      refine zd_iload E (pc := 44) d_V_measure_44 rfl ?_
      refine zd_bipush E (pc := 46) (v := (nI 10)) d_V_measure_46 (by decide) ?_
      refine zd_nc_ge E (pc := 48) 143 d_V_measure_48 (by decide) ((by omega)) ((by omega)) (fun hq => ?_) (fun hq => ?_)
      · omega
      · refine zd_iload E (pc := 51) d_V_measure_51 rfl ?_
        refine zd_bf_eq E (pc := 53) 143 d_V_measure_53 (by decide) (fun hb => ?_) (fun hb => ?_)
        · have hb0 : b5 = false := by simpa using hb
          exact zd_vret E (pc := 143) d_V_measure_143 ⟨r1, hf, fun j hj => by rw [hr j hj, ← lm_it_stay (hb5 hb0) (10 - t) j hj, show t + (10 - t) = 10 by omega], rfl, rfl⟩
        · refine zd_iconst E (pc := 56) (v := (nI 0)) d_V_measure_56 (by decide) ?_
          refine zd_istore E (pc := 57) d_V_measure_57 (by decide) ?_
          refine zd_iconst E (pc := 59) (v := (nI 0)) d_V_measure_59 (by decide) ?_
          refine zd_istore E (pc := 60) d_V_measure_60 (by decide) ?_
          refine acts na t 0 false r1 L8 (by omega) hf (fun j hj => by rw [hr j hj]; rfl) (fun _ j hj => rfl) (fun r2 b5 L8 hf2 hr2 hb2 => ?_)
          refine zd_iinc E (pc := 137) d_V_measure_137 rfl (bm_inc t) (by decide) ?_
          refine zd_goto E (pc := 140) 44 d_V_measure_140 (by decide) ?_
          exact ih (t + 1) b5 r2 none L8 (by omega) hf2 hr2 hb2
  have inits : ∀ n5 i r1, i + n5 = 10 → (∀ j, j ≠ 17 → r1 j = r j) → (∀ j, j < i → r1 17 j = nI (lm_i0 1000000 s j)) → Z (wd k q v r1 ex) [some (.ref (q 16)), some (.int (nI s)), some (.ref (q 2)), some (.int (nI (bm_b w))), some (.int (nI B)), some (.int (nI i)), none, none, none] 3 [] := by
    intro n5
    induction n5 with
    | zero =>
      intro i r1 hi hf hr
      have e : i = 10 := by omega
      subst e
      refine zd_iload E (pc := 3) d_V_measure_3 rfl ?_
      refine zd_bipush E (pc := 5) (v := (nI 10)) d_V_measure_5 (by decide) ?_
      refine zd_nc_ge E (pc := 7) 38 d_V_measure_7 (by decide) ((by omega)) ((by omega)) (fun hq => ?_) (fun hq => ?_)
      · refine zd_iconst E (pc := 38) (v := (nI 1)) d_V_measure_38 (by decide) ?_
        refine zd_istore E (pc := 39) d_V_measure_39 (by decide) ?_
        refine zd_iconst E (pc := 41) (v := (nI 0)) d_V_measure_41 (by decide) ?_
        refine zd_istore E (pc := 42) d_V_measure_42 (by decide) ?_
        exact rounds 10 0 true r1 none none rfl hf hr (fun h => by cases h)
      · omega
    | succ n5 ih =>
      intro i r1 hi hf hr
      have hi10 : i < 10 := by omega
      have fin : ∀ x, x = lm_i0 1000000 s i → Z (wd k q v r1 ex) [some (.ref (q 16)), some (.int (nI s)), some (.ref (q 2)), some (.int (nI (bm_b w))), some (.int (nI B)), some (.int (nI i)), none, none, none] 31 [.int (nI x), .int (nI i), .ref (q 17)] := by
        intro x hx
        refine zd_iast E (pc := 31) d_V_measure_31 17 rfl (t0 := 0) rfl (i) (rfl) (hi10) (by decide) (ws1 := wd k q v (va_up r1 17 (upd (r1 17) i (nI x))) ex) rfl ?_
        refine zd_iinc E (pc := 32) d_V_measure_32 rfl (bm_inc i) (by decide) ?_
        refine zd_goto E (pc := 35) 3 d_V_measure_35 (by decide) ?_
        refine ih (i + 1) _ (by omega) (fun j hj => by rw [va_up_ne _ _ hj]; exact hf j hj) (fun j hj => ?_)
        rw [va_up_self]
        by_cases e : j = i
        · subst e; rw [pk_us, hx]
        · rw [pk_un e]; exact hr j (by omega)
      refine zd_iload E (pc := 3) d_V_measure_3 rfl ?_
      refine zd_bipush E (pc := 5) (v := (nI 10)) d_V_measure_5 (by decide) ?_
      refine zd_nc_ge E (pc := 7) 38 d_V_measure_7 (by decide) ((by omega)) ((by omega)) (fun hq => ?_) (fun hq => ?_)
      · omega
      · refine zd_aload_n E (pc := 10) d_V_measure_10 rfl ?_
        refine zd_get E (pc := 11) d_V_measure_11 kf_V_9 16 rfl rfl ?_
        refine zd_iload E (pc := 14) d_V_measure_14 rfl ?_
        refine zd_iload_n E (pc := 16) d_V_measure_16 rfl ?_
        refine zd_iload E (pc := 17) d_V_measure_17 rfl ?_
        refine zd_callS E (pc := 19) d_V_measure_19 kc_V_19 rfl ks_P_has (c_P_has l D _ _ hs (show i < 32 by omega)) (by decide) rfl (Nat.le_of_ble_eq_true rfl) (fun v1 ws1 hv1 => ?_)
        obtain ⟨rfl, rfl⟩ := hv1
        refine zd_bf_eq E (pc := 22) 29 d_V_measure_22 (by decide) (fun hb => ?_) (fun hb => ?_)
        · refine zd_ldc E (pc := 29) (v := (nI 1000000)) d_V_measure_29 kk_V_23 ?_
          exact fin 1000000 (by unfold lm_i0; rw [if_neg hb])
        · refine zd_iconst E (pc := 25) (v := (nI 0)) d_V_measure_25 (by decide) ?_
          refine zd_goto E (pc := 26) 31 d_V_measure_26 (by decide) ?_
          exact fin 0 (by unfold lm_i0; rw [if_pos hb])
  refine zd_iconst E (pc := 0) (v := (nI 0)) d_V_measure_0 (by decide) ?_
  refine zd_istore E (pc := 1) d_V_measure_1 (by decide) ?_
  exact inits 10 0 r rfl (fun _ _ => rfl) (fun j hj => by omega)
set_option maxRecDepth 100000 in
set_option maxHeartbeats 4000000 in
theorem c_V_measure19 (l : Launch) (D : va_G) {s B na : Nat} {w : Bool} {c ne ad : Nat → Nat} (hs : s < 2 ^ 31) (hB : B < 2 ^ 31) (hv1 : v 1 = nI na) (hna : na ≤ 12) (hc : ∀ i, i < 12 → r 19 i = nI (c i) ∧ c i ≤ 9) (hne : ∀ i, i < 12 → r 4 i = nI (ne i) ∧ ne i < 2 ^ 31) (had : ∀ i, i < 12 → r 5 i = nI (ad i) ∧ ad i < 2 ^ 31) :
    zd_Ct l D classes (wd_ty k) gd_T y_V_measure b_V_measure 9 none (zd_rm 2) [.ref (q 16), .int (nI s), .ref (q 19), .int (nI (bm_b w)), .int (nI B)] (wd k q v r ex)
    (fun v1 w1 => ∃ r1 : Nat → Nat → Int32, (∀ i, i ≠ 17 → r1 i = r i) ∧ (∀ j, j < 10 → r1 17 j = nI (lm_it 1000000 w 10 na c ne ad (fun a => B.testBit a) (lm_i0 1000000 s) 10 j)) ∧ v1 = none ∧ w1 = wd k q v r1 ex) := by
  generalize hbar : (fun a => B.testBit a) = bar
  refine zd_met gd_all (by decide) rfl (Nat.le_of_ble_eq_true rfl) (fun Z E => ?_)
  show Z (wd k q v r ex) [some (.ref (q 16)), some (.int (nI s)), some (.ref (q 19)), some (.int (nI (bm_b w))), some (.int (nI B)), none, none, none, none] 0 []
  have hbar1 : ∀ a, bar a = B.testBit a := fun a => by rw [← hbar]
  have itK : ∀ t j, lm_it 1000000 w 10 na c ne ad bar (lm_i0 1000000 s) t j ≤ 1000000 := fun t j => Nat.le_trans (lm_it_le _ _ _) (lm_i0_le _ _ _)
  have rdK : ∀ t a j, lm_rd 1000000 w 10 c ne ad bar (lm_it 1000000 w 10 na c ne ad bar (lm_i0 1000000 s) t) a j ≤ 1000000 := fun t a j => Nat.le_trans (lm_rd_le _ _ _) (itK t j)
  have acts : ∀ n7 t a b5 r1 L8, a + n7 = na → (∀ j, j ≠ 17 → r1 j = r j) → (∀ j, j < 10 → r1 17 j = nI (lm_rd 1000000 w 10 c ne ad bar (lm_it 1000000 w 10 na c ne ad bar (lm_i0 1000000 s) t) a j)) → (b5 = false → ∀ j, j < 10 → lm_rd 1000000 w 10 c ne ad bar (lm_it 1000000 w 10 na c ne ad bar (lm_i0 1000000 s) t) a j = lm_it 1000000 w 10 na c ne ad bar (lm_i0 1000000 s) t j) →
      (∀ r2 b5 L8, (∀ j, j ≠ 17 → r2 j = r j) → (∀ j, j < 10 → r2 17 j = nI (lm_it 1000000 w 10 na c ne ad bar (lm_i0 1000000 s) (t + 1) j)) → (b5 = false → lm_px 1000000 w 10 na c ne ad bar (lm_it 1000000 w 10 na c ne ad bar (lm_i0 1000000 s) (t + 1))) → Z (wd k q v r2 ex) [some (.ref (q 16)), some (.int (nI s)), some (.ref (q 19)), some (.int (nI (bm_b w))), some (.int (nI B)), some (.int (nI (bm_b b5))), some (.int (nI t)), none, L8] 137 []) →
      Z (wd k q v r1 ex) [some (.ref (q 16)), some (.int (nI s)), some (.ref (q 19)), some (.int (nI (bm_b w))), some (.int (nI B)), some (.int (nI (bm_b b5))), some (.int (nI t)), some (.int (nI a)), L8] 62 [] := by
    intro n7
    induction n7 with
    | zero =>
      intro t a b5 r1 L8 ha hf hr hb5 kk
      have e : a = na := by omega
      subst e
      refine zd_iload E (pc := 62) d_V_measure_62 rfl ?_
      refine zd_aload_n E (pc := 64) d_V_measure_64 rfl ?_
      refine zd_get E (pc := 65) d_V_measure_65 kf_V_15 16 rfl rfl ?_
      refine zd_get E (pc := 68) d_V_measure_68 kf_V_24 1 rfl rfl ?_
      rw [hv1]
      refine zd_nc_ge E (pc := 71) 137 d_V_measure_71 (by decide) ((by omega)) ((by omega)) (fun hq => ?_) (fun hq => ?_)
      · refine zd_less E ?_ (kk r1 b5 L8 hf hr (fun hb => ?_))
        · cases L8 <;> exact ⟨rfl, rfl, rfl, rfl, rfl, rfl, rfl, by first | exact trivial | exact ⟨rfl, trivial⟩⟩
        · have h1 := hb5 hb
          exact lm_px_congr (fun f hf => (h1 f hf).symm) (lm_rd_fix h1)
      · omega
    | succ n7 ih =>
      intro t a b5 r1 L8 ha hf hr hb5 kk
      have ha12 : a < 12 := by omega
      have f4 : r1 4 = r 4 := hf 4 (by decide)
      have f5 : r1 5 = r 5 := hf 5 (by decide)
      have fc : r1 19 = r 19 := hf 19 (by decide)
      obtain ⟨c1, c2⟩ := hc a ha12
      obtain ⟨n1, n2⟩ := hne a ha12
      obtain ⟨a1, a2⟩ := had a ha12
      have tail : ∀ r2 b5 L8, (∀ j, j ≠ 17 → r2 j = r j) → (∀ j, j < 10 → r2 17 j = nI (lm_rd 1000000 w 10 c ne ad bar (lm_it 1000000 w 10 na c ne ad bar (lm_i0 1000000 s) t) (a + 1) j)) → (b5 = false → ∀ j, j < 10 → lm_rd 1000000 w 10 c ne ad bar (lm_it 1000000 w 10 na c ne ad bar (lm_i0 1000000 s) t) (a + 1) j = lm_it 1000000 w 10 na c ne ad bar (lm_i0 1000000 s) t j) →
          Z (wd k q v r2 ex) [some (.ref (q 16)), some (.int (nI s)), some (.ref (q 19)), some (.int (nI (bm_b w))), some (.int (nI B)), some (.int (nI (bm_b b5))), some (.int (nI t)), some (.int (nI a)), L8] 131 [] := by
        intro r2 b5 L8 hf2 hr2 hb
        refine zd_iinc E (pc := 131) d_V_measure_131 rfl (bm_inc a) (by decide) ?_
        refine zd_goto E (pc := 134) 62 d_V_measure_134 (by decide) ?_
        exact ih t (a + 1) b5 r2 L8 (by omega) hf2 hr2 hb kk
      refine zd_iload E (pc := 62) d_V_measure_62 rfl ?_
      refine zd_aload_n E (pc := 64) d_V_measure_64 rfl ?_
      refine zd_get E (pc := 65) d_V_measure_65 kf_V_15 16 rfl rfl ?_
      refine zd_get E (pc := 68) d_V_measure_68 kf_V_24 1 rfl rfl ?_
      rw [hv1]
      refine zd_nc_ge E (pc := 71) 137 d_V_measure_71 (by decide) ((by omega)) ((by omega)) (fun hq => ?_) (fun hq => ?_)
      · omega
      · refine zd_iload E (pc := 74) d_V_measure_74 rfl ?_
        refine zd_iload E (pc := 76) d_V_measure_76 rfl ?_
        refine zd_callS E (pc := 78) d_V_measure_78 kc_V_19 rfl ks_P_has (c_P_has l D _ _ hB (show a < 32 by omega)) (by decide) rfl (Nat.le_of_ble_eq_true rfl) (fun v1 ws1 hv1 => ?_)
        obtain ⟨rfl, rfl⟩ := hv1
        refine zd_bf_ne E (pc := 81) 131 d_V_measure_81 (by decide) (fun hbit => ?_) (fun hbit => ?_)
        · have e : ∀ j, lm_rd 1000000 w 10 c ne ad bar (lm_it 1000000 w 10 na c ne ad bar (lm_i0 1000000 s) t) (a + 1) j = lm_rd 1000000 w 10 c ne ad bar (lm_it 1000000 w 10 na c ne ad bar (lm_i0 1000000 s) t) a j := fun j => by
            rw [lm_rd, if_pos (by rw [hbar1]; exact hbit)]
          exact tail r1 b5 L8 hf (fun j hj => by rw [e]; exact hr j hj) (fun hb j hj => by rw [e]; exact hb5 hb j hj)
        · refine zd_aload_n E (pc := 84) d_V_measure_84 rfl ?_
          refine zd_iload E (pc := 85) d_V_measure_85 rfl ?_
          refine zd_iald E (pc := 87) d_V_measure_87 19 rfl (t0 := 0) rfl (a) (rfl) (ha12) (by decide) ?_
          rw [fc, c1]
          refine zd_aload_n E (pc := 88) d_V_measure_88 rfl ?_
          refine zd_aload_n E (pc := 89) d_V_measure_89 rfl ?_
          refine zd_get E (pc := 90) d_V_measure_90 kf_V_15 16 rfl rfl ?_
          refine zd_get E (pc := 93) d_V_measure_93 kf_V_30 1 rfl rfl ?_
          refine zd_iconst E (pc := 96) (v := (nI 0)) d_V_measure_96 (by decide) ?_
          refine zd_aald E (pc := 97) d_V_measure_97 3 rfl (t0 := 2) rfl rfl (0) (rfl) (by decide) (by decide) rfl ?_
          refine zd_iload E (pc := 98) d_V_measure_98 rfl ?_
          refine zd_iald E (pc := 100) d_V_measure_100 4 rfl (t0 := 0) rfl (a) (rfl) (ha12) (by decide) ?_
          rw [f4, n1]
          refine zd_iload_n E (pc := 101) d_V_measure_101 rfl ?_
          refine zd_callV E (pc := 102) d_V_measure_102 kc_V_34 rfl ki_V_joined ke_V_joined 16 rfl rfl (c_V_joined l D n2 (fun i hi => ⟨hr i hi, rdK t a i⟩)) (by decide) rfl (Nat.le_of_ble_eq_true rfl) (fun v1 ws1 hv1 => ?_)
          obtain ⟨rfl, rfl⟩ := hv1
          refine zd_iadd E (pc := 105) d_V_measure_105 ?_
          rw [nI_add]
          refine zd_istore E (pc := 106) d_V_measure_106 (by decide) ?_
          refine zd_iload E (pc := 108) d_V_measure_108 rfl ?_
          refine zd_aload_n E (pc := 110) d_V_measure_110 rfl ?_
          refine zd_aload_n E (pc := 111) d_V_measure_111 rfl ?_
          refine zd_get E (pc := 112) d_V_measure_112 kf_V_15 16 rfl rfl ?_
          refine zd_get E (pc := 115) d_V_measure_115 kf_V_30 1 rfl rfl ?_
          refine zd_iconst E (pc := 118) (v := (nI 1)) d_V_measure_118 (by decide) ?_
          refine zd_aald E (pc := 119) d_V_measure_119 3 rfl (t0 := 2) rfl rfl (1) (rfl) (by decide) (by decide) rfl ?_
          refine zd_iload E (pc := 120) d_V_measure_120 rfl ?_
          refine zd_iald E (pc := 122) d_V_measure_122 5 rfl (t0 := 0) rfl (a) (rfl) (ha12) (by decide) ?_
          rw [f5, a1]
          refine zd_iload E (pc := 123) d_V_measure_123 rfl ?_
          have jle := lm_jn_le 1000000 w (lm_rd 1000000 w 10 c ne ad bar (lm_it 1000000 w 10 na c ne ad bar (lm_i0 1000000 s) t) a) (ne a) 10
          refine zd_callV E (pc := 125) d_V_measure_125 kc_V_38 rfl ki_V_lower ke_V_lower 16 rfl rfl (c_V_lower l D a2 (by omega) (fun i hi => ⟨hr i hi, rdK t a i⟩)) (by decide) rfl (Nat.le_of_ble_eq_true rfl) (fun v1 ws1 hv1 => ?_)
          obtain ⟨r2, hf2, hr2, rfl, rfl⟩ := hv1
          refine zd_ior E (pc := 128) d_V_measure_128 ?_
          rw [bm_orb]
          refine zd_istore E (pc := 129) d_V_measure_129 (by decide) ?_
          have e : ∀ j, lm_rd 1000000 w 10 c ne ad bar (lm_it 1000000 w 10 na c ne ad bar (lm_i0 1000000 s) t) (a + 1) j = lm_act 1000000 w 10 c ne ad a (lm_rd 1000000 w 10 c ne ad bar (lm_it 1000000 w 10 na c ne ad bar (lm_i0 1000000 s) t) a) j := fun j => by
            rw [lm_rd, if_neg (by rw [hbar1]; exact hbit)]
          refine tail r2 _ _ (fun j hj => (hf2 j hj).trans (hf j hj)) (fun j hj => by rw [e]; exact hr2 j hj) (fun hb j hj => ?_)
          simp only [Bool.or_eq_false_iff] at hb
          rw [e]
          unfold lm_act
          rw [if_neg (lm_lows_no hb.2 j hj)]
          exact hb5 hb.1 j hj
  have rounds : ∀ n6 t b5 r1 L7 L8, t + n6 = 10 → (∀ j, j ≠ 17 → r1 j = r j) → (∀ j, j < 10 → r1 17 j = nI (lm_it 1000000 w 10 na c ne ad bar (lm_i0 1000000 s) t j)) → (b5 = false → lm_px 1000000 w 10 na c ne ad bar (lm_it 1000000 w 10 na c ne ad bar (lm_i0 1000000 s) t)) →
      Z (wd k q v r1 ex) [some (.ref (q 16)), some (.int (nI s)), some (.ref (q 19)), some (.int (nI (bm_b w))), some (.int (nI B)), some (.int (nI (bm_b b5))), some (.int (nI t)), L7, L8] 44 [] := by
    intro n6
    induction n6 with
    | zero =>
      intro t b5 r1 L7 L8 ht hf hr hb5
      have e : t = 10 := by omega
      subst e
      refine zd_iload E (pc := 44) d_V_measure_44 rfl ?_
      refine zd_bipush E (pc := 46) (v := (nI 10)) d_V_measure_46 (by decide) ?_
      refine zd_nc_ge E (pc := 48) 143 d_V_measure_48 (by decide) ((by omega)) ((by omega)) (fun hq => ?_) (fun hq => ?_)
      · exact zd_vret E (pc := 143) d_V_measure_143 ⟨r1, hf, hr, rfl, rfl⟩
      · omega
    | succ n6 ih =>
      intro t b5 r1 L7 L8 ht hf hr hb5
      refine zd_iload E (pc := 44) d_V_measure_44 rfl ?_
      refine zd_bipush E (pc := 46) (v := (nI 10)) d_V_measure_46 (by decide) ?_
      refine zd_nc_ge E (pc := 48) 143 d_V_measure_48 (by decide) ((by omega)) ((by omega)) (fun hq => ?_) (fun hq => ?_)
      · omega
      · refine zd_iload E (pc := 51) d_V_measure_51 rfl ?_
        refine zd_bf_eq E (pc := 53) 143 d_V_measure_53 (by decide) (fun hb => ?_) (fun hb => ?_)
        · have hb0 : b5 = false := by simpa using hb
          exact zd_vret E (pc := 143) d_V_measure_143 ⟨r1, hf, fun j hj => by rw [hr j hj, ← lm_it_stay (hb5 hb0) (10 - t) j hj, show t + (10 - t) = 10 by omega], rfl, rfl⟩
        · refine zd_iconst E (pc := 56) (v := (nI 0)) d_V_measure_56 (by decide) ?_
          refine zd_istore E (pc := 57) d_V_measure_57 (by decide) ?_
          refine zd_iconst E (pc := 59) (v := (nI 0)) d_V_measure_59 (by decide) ?_
          refine zd_istore E (pc := 60) d_V_measure_60 (by decide) ?_
          refine acts na t 0 false r1 L8 (by omega) hf (fun j hj => by rw [hr j hj]; rfl) (fun _ j hj => rfl) (fun r2 b5 L8 hf2 hr2 hb2 => ?_)
          refine zd_iinc E (pc := 137) d_V_measure_137 rfl (bm_inc t) (by decide) ?_
          refine zd_goto E (pc := 140) 44 d_V_measure_140 (by decide) ?_
          exact ih (t + 1) b5 r2 none L8 (by omega) hf2 hr2 hb2
  have inits : ∀ n5 i r1, i + n5 = 10 → (∀ j, j ≠ 17 → r1 j = r j) → (∀ j, j < i → r1 17 j = nI (lm_i0 1000000 s j)) → Z (wd k q v r1 ex) [some (.ref (q 16)), some (.int (nI s)), some (.ref (q 19)), some (.int (nI (bm_b w))), some (.int (nI B)), some (.int (nI i)), none, none, none] 3 [] := by
    intro n5
    induction n5 with
    | zero =>
      intro i r1 hi hf hr
      have e : i = 10 := by omega
      subst e
      refine zd_iload E (pc := 3) d_V_measure_3 rfl ?_
      refine zd_bipush E (pc := 5) (v := (nI 10)) d_V_measure_5 (by decide) ?_
      refine zd_nc_ge E (pc := 7) 38 d_V_measure_7 (by decide) ((by omega)) ((by omega)) (fun hq => ?_) (fun hq => ?_)
      · refine zd_iconst E (pc := 38) (v := (nI 1)) d_V_measure_38 (by decide) ?_
        refine zd_istore E (pc := 39) d_V_measure_39 (by decide) ?_
        refine zd_iconst E (pc := 41) (v := (nI 0)) d_V_measure_41 (by decide) ?_
        refine zd_istore E (pc := 42) d_V_measure_42 (by decide) ?_
        exact rounds 10 0 true r1 none none rfl hf hr (fun h => by cases h)
      · omega
    | succ n5 ih =>
      intro i r1 hi hf hr
      have hi10 : i < 10 := by omega
      have fin : ∀ x, x = lm_i0 1000000 s i → Z (wd k q v r1 ex) [some (.ref (q 16)), some (.int (nI s)), some (.ref (q 19)), some (.int (nI (bm_b w))), some (.int (nI B)), some (.int (nI i)), none, none, none] 31 [.int (nI x), .int (nI i), .ref (q 17)] := by
        intro x hx
        refine zd_iast E (pc := 31) d_V_measure_31 17 rfl (t0 := 0) rfl (i) (rfl) (hi10) (by decide) (ws1 := wd k q v (va_up r1 17 (upd (r1 17) i (nI x))) ex) rfl ?_
        refine zd_iinc E (pc := 32) d_V_measure_32 rfl (bm_inc i) (by decide) ?_
        refine zd_goto E (pc := 35) 3 d_V_measure_35 (by decide) ?_
        refine ih (i + 1) _ (by omega) (fun j hj => by rw [va_up_ne _ _ hj]; exact hf j hj) (fun j hj => ?_)
        rw [va_up_self]
        by_cases e : j = i
        · subst e; rw [pk_us, hx]
        · rw [pk_un e]; exact hr j (by omega)
      refine zd_iload E (pc := 3) d_V_measure_3 rfl ?_
      refine zd_bipush E (pc := 5) (v := (nI 10)) d_V_measure_5 (by decide) ?_
      refine zd_nc_ge E (pc := 7) 38 d_V_measure_7 (by decide) ((by omega)) ((by omega)) (fun hq => ?_) (fun hq => ?_)
      · omega
      · refine zd_aload_n E (pc := 10) d_V_measure_10 rfl ?_
        refine zd_get E (pc := 11) d_V_measure_11 kf_V_9 16 rfl rfl ?_
        refine zd_iload E (pc := 14) d_V_measure_14 rfl ?_
        refine zd_iload_n E (pc := 16) d_V_measure_16 rfl ?_
        refine zd_iload E (pc := 17) d_V_measure_17 rfl ?_
        refine zd_callS E (pc := 19) d_V_measure_19 kc_V_19 rfl ks_P_has (c_P_has l D _ _ hs (show i < 32 by omega)) (by decide) rfl (Nat.le_of_ble_eq_true rfl) (fun v1 ws1 hv1 => ?_)
        obtain ⟨rfl, rfl⟩ := hv1
        refine zd_bf_eq E (pc := 22) 29 d_V_measure_22 (by decide) (fun hb => ?_) (fun hb => ?_)
        · refine zd_ldc E (pc := 29) (v := (nI 1000000)) d_V_measure_29 kk_V_23 ?_
          exact fin 1000000 (by unfold lm_i0; rw [if_neg hb])
        · refine zd_iconst E (pc := 25) (v := (nI 0)) d_V_measure_25 (by decide) ?_
          refine zd_goto E (pc := 26) 31 d_V_measure_26 (by decide) ?_
          exact fin 0 (by unfold lm_i0; rw [if_pos hb])
  refine zd_iconst E (pc := 0) (v := (nI 0)) d_V_measure_0 (by decide) ?_
  refine zd_istore E (pc := 1) d_V_measure_1 (by decide) ?_
  exact inits 10 0 r rfl (fun _ _ => rfl) (fun j hj => by omega)
end MS
end
section
/-! The task: what its cells hold; the rows of actions (best, drafted); a search's cells. -/
def tk_C (v : Nat → Int32) (r : Nat → Nat → Int32) (nf na fi go : Nat) (co ne ad dr : Nat → Nat) : Prop :=
  (v 0 = nI nf ∧ v 1 = nI na ∧ v 2 = nI fi ∧ v 3 = nI go) ∧ (∀ i, i < 12 → r 2 i = nI (co i) ∧ r 4 i = nI (ne i) ∧ r 5 i = nI (ad i) ∧ r 6 i = nI (dr i)) ∧ (nf ≤ 10 ∧ na ≤ 12 ∧ fi < 2 ^ nf ∧ go < 2 ^ nf) ∧ (∀ i, i < 12 → co i ≤ 9 ∧ ne i < 2 ^ nf ∧ ad i < 2 ^ nf ∧ dr i < 2 ^ nf) ∧ (∀ i, i < na → 1 ≤ co i)
/-- an action's test and outcome -/
def tk_can (ne : Nat → Nat) (a s : Nat) : Bool := decide (s &&& ne a = ne a)
def tk_af (ad dr : Nat → Nat) (a s : Nat) : Nat := bm_dif s (dr a) ||| ad a
def tk_met (go s : Nat) : Bool := decide (s &&& go = go)
theorem tk_pow {n : Nat} (h : n ≤ 10) : 2 ^ n ≤ 1024 := Nat.pow_le_pow_right (n := 2) (by decide) h
theorem tk_or_lt {a b n : Nat} (ha : a < 2 ^ n) (hb : b < 2 ^ n) : a ||| b < 2 ^ n := Nat.or_lt_two_pow ha hb
theorem tk_dif_lt {a b n : Nat} (ha : a < 2 ^ n) : bm_dif a b < 2 ^ n := bm_lt fun i hi => by
  rw [bm_dif_bit, Bool.and_eq_true] at hi
  exact bm_bit_lt ha hi.1
theorem tk_af_lt {ad dr : Nat → Nat} {a s n : Nat} (hs : s < 2 ^ n) (ha : ad a < 2 ^ n) : tk_af ad dr a s < 2 ^ n := tk_or_lt (tk_dif_lt hs) ha
section TK
variable {v v1 : Nat → Int32} {r r1 : Nat → Nat → Int32} {nf na fi go : Nat} {co ne ad dr : Nat → Nat}
theorem tk_C.fr (h : tk_C v r nf na fi go co ne ad dr) (hv : ∀ i, i < 4 → v1 i = v i) (h2 : r1 2 = r 2) (h4 : r1 4 = r 4) (h5 : r1 5 = r 5) (h6 : r1 6 = r 6) : tk_C v1 r1 nf na fi go co ne ad dr := by
  obtain ⟨⟨a0, a1, a2, a3⟩, b, c, d, e⟩ := h
  refine ⟨⟨by rw [hv 0 (by decide)]; exact a0, by rw [hv 1 (by decide)]; exact a1, by rw [hv 2 (by decide)]; exact a2, by rw [hv 3 (by decide)]; exact a3⟩, fun i hi => ?_, c, d, e⟩
  rw [h2, h4, h5, h6]
  exact b i hi
theorem tk_C.n31 (h : tk_C v r nf na fi go co ne ad dr) : 2 ^ nf ≤ 1024 := tk_pow h.2.2.1.1
theorem tk_C.hne (h : tk_C v r nf na fi go co ne ad dr) : ∀ i, i < 12 → r 4 i = nI (ne i) ∧ ne i < 2 ^ 31 := fun i hi => ⟨(h.2.1 i hi).2.1, by have := (h.2.2.2.1 i hi).2.1; have := h.n31; omega⟩
theorem tk_C.had (h : tk_C v r nf na fi go co ne ad dr) : ∀ i, i < 12 → r 5 i = nI (ad i) ∧ ad i < 2 ^ 31 := fun i hi => ⟨(h.2.1 i hi).2.2.1, by have := (h.2.2.2.1 i hi).2.2.1; have := h.n31; omega⟩
theorem tk_C.had0 (h : tk_C v r nf na fi go co ne ad dr) : ∀ i, i < 12 → r 5 i = nI (ad i) := fun i hi => (h.2.1 i hi).2.2.1
theorem tk_C.hdr0 (h : tk_C v r nf na fi go co ne ad dr) : ∀ i, i < 12 → r 6 i = nI (dr i) := fun i hi => (h.2.1 i hi).2.2.2
theorem tk_C.hco (h : tk_C v r nf na fi go co ne ad dr) : ∀ i, i < 12 → r 2 i = nI (co i) ∧ co i ≤ 9 := fun i hi => ⟨(h.2.1 i hi).1, (h.2.2.2.1 i hi).1⟩
theorem tk_C.hna (h : tk_C v r nf na fi go co ne ad dr) : v 1 = nI na ∧ na ≤ 12 := ⟨h.1.2.1, h.2.2.1.2.1⟩
theorem tk_C.hgo (h : tk_C v r nf na fi go co ne ad dr) : v 3 = nI go ∧ go < 2 ^ 31 := ⟨h.1.2.2.2, by have := h.2.2.1.2.2.2; have := h.n31; omega⟩
theorem tk_C.haf (h : tk_C v r nf na fi go co ne ad dr) {a s : Nat} (ha : a < 12) (hs : s < 1024) : tk_af ad dr a s < 1024 := tk_af_lt (n := 10) hs (by have := (h.2.2.2.1 a ha).2.2.1; have := h.n31; omega)
end TK
/-- a search's cells: n states in their order o, at the costs d; all others have none -/
def sr_st (v : Nat → Int32) (r : Nat → Nat → Int32) (n : Nat) (o d : Nat → Nat) : Prop :=
  v 4 = nI n ∧ (∀ i, i < n → o i < 1024) ∧ (∀ i j, i < n → j < n → o i = o j → i = j) ∧ (∀ i, i < n → r 8 i = nI (o i)) ∧ (∀ i, i < n → r 9 (o i) = nI (d i) ∧ d i < 20000) ∧ (∀ s, s < 1024 → (∀ i, i < n → o i ≠ s) → r 9 s = -1)
/-- what a search leaves as it is -/
def sr_fr (v v1 : Nat → Int32) (r r1 : Nat → Nat → Int32) : Prop := (∀ i, i ≠ 4 → v1 i = v i) ∧ (∀ i, i ≠ 8 → i ≠ 9 → i ≠ 10 → i ≠ 11 → r1 i = r i)
theorem sr_fr.rf (v : Nat → Int32) (r : Nat → Nat → Int32) : sr_fr v v r r := ⟨fun _ _ => rfl, fun _ _ _ _ _ => rfl⟩
theorem sr_fr.tr {v v1 v2 : Nat → Int32} {r r1 r2 : Nat → Nat → Int32} (h : sr_fr v v1 r r1) (g : sr_fr v1 v2 r1 r2) : sr_fr v v2 r r2 := ⟨fun i hi => (g.1 i hi).trans (h.1 i hi), fun i a b c d => (g.2 i a b c d).trans (h.2 i a b c d)⟩
theorem sr_fr.tk {v v1 : Nat → Int32} {r r1 : Nat → Nat → Int32} {nf na fi go : Nat} {co ne ad dr : Nat → Nat} (h : sr_fr v v1 r r1) (t : tk_C v r nf na fi go co ne ad dr) : tk_C v1 r1 nf na fi go co ne ad dr :=
  t.fr (fun i hi => h.1 i (by omega)) (h.2 2 (by decide) (by decide) (by decide) (by decide)) (h.2 4 (by decide) (by decide) (by decide) (by decide)) (h.2 5 (by decide) (by decide) (by decide) (by decide)) (h.2 6 (by decide) (by decide) (by decide) (by decide))
theorem sr_le {v : Nat → Int32} {r : Nat → Nat → Int32} {n : Nat} {o d : Nat → Nat} (h : sr_st v r n o d) : n ≤ 1024 := gw_pigeon 1024 h.2.1 h.2.2.1
section SR
variable {k : Nat → ClassId} {q : Nat → Nat} {v : Nat → Int32} {r : Nat → Nat → Int32} {ex : va_W}
set_option maxRecDepth 100000 in
set_option maxHeartbeats 4000000 in
theorem c_S_forget (l : Launch) (D : va_G) {n : Nat} {o d : Nat → Nat} (h : sr_st v r n o d) : zd_Ct l D classes (wd_ty k) gd_T y_S_forget b_S_forget 2 none (zd_rm 0) [.ref (q 7)] (wd k q v r ex)
    (fun v1 w1 => ∃ v2 r2, sr_fr v v2 r r2 ∧ sr_st v2 r2 0 o d ∧ v1 = none ∧ w1 = wd k q v2 r2 ex) := by
  refine zd_met gd_all (by decide) rfl (Nat.le_of_ble_eq_true rfl) (fun Z E => ?_)
  show Z (wd k q v r ex) [some (.ref (q 7)), none] 0 []
  have hn := sr_le h
  obtain ⟨h1, h2, h3, h4, h5, h6⟩ := h
  have loop : ∀ m i r1, i + m = n → (∀ j, j ≠ 9 → r1 j = r j) → (∀ s, s < 1024 → (∀ j, i ≤ j → j < n → o j ≠ s) → r1 9 s = -1) → Z (wd k q v r1 ex) [some (.ref (q 7)), some (.int (nI i))] 2 [] := by
    intro m
    induction m with
    | zero =>
      intro i r1 hi hf hr
      have e : i = n := by omega
      subst e
      refine zd_iload_n E (pc := 2) d_S_forget_2 rfl ?_
      refine zd_aload_n E (pc := 3) d_S_forget_3 rfl ?_
      refine zd_get E (pc := 4) d_S_forget_4 kf_S_45 7 rfl rfl ?_
      rw [h1]
      refine zd_nc_ge E (pc := 7) 28 d_S_forget_7 (by decide) ((by omega)) ((by omega)) (fun hc => ?_) (fun hc => ?_)
      · refine zd_aload_n E (pc := 28) d_S_forget_28 rfl ?_
        refine zd_iconst E (pc := 29) (v := (nI 0)) d_S_forget_29 (by decide) ?_
        refine zd_put E (pc := 30) d_S_forget_30 kp_S_45 7 rfl (Nat.le_of_ble_eq_true rfl) (ws1 := wd k q (upd v 4 (nI 0)) r1 ex) rfl ?_
        exact zd_vret E (pc := 33) d_S_forget_33 ⟨_, _, ⟨fun j hj => pk_un hj, fun j a b c e => hf j b⟩, ⟨pk_us, fun j hj => by omega, fun j _ hj => by omega, fun j hj => by omega, fun j hj => by omega, fun s hs _ => hr s hs (fun j a b => by omega)⟩, rfl, rfl⟩
      · omega
    | succ m ih =>
      intro i r1 hi hf hr
      have hin : i < n := by omega
      have f8 : r1 8 = r 8 := hf 8 (by decide)
      refine zd_iload_n E (pc := 2) d_S_forget_2 rfl ?_
      refine zd_aload_n E (pc := 3) d_S_forget_3 rfl ?_
      refine zd_get E (pc := 4) d_S_forget_4 kf_S_45 7 rfl rfl ?_
      rw [h1]
      refine zd_nc_ge E (pc := 7) 28 d_S_forget_7 (by decide) ((by omega)) ((by omega)) (fun hc => ?_) (fun hc => ?_)
      · omega
      · refine zd_aload_n E (pc := 10) d_S_forget_10 rfl ?_
        refine zd_get E (pc := 11) d_S_forget_11 kf_S_15 7 rfl rfl ?_
        refine zd_aload_n E (pc := 14) d_S_forget_14 rfl ?_
        refine zd_get E (pc := 15) d_S_forget_15 kf_S_9 7 rfl rfl ?_
        refine zd_iload_n E (pc := 18) d_S_forget_18 rfl ?_
        refine zd_iald E (pc := 19) d_S_forget_19 8 rfl (t0 := 0) rfl (i) (rfl) ((by omega)) (by decide) ?_
        rw [f8, h4 i hin]
        refine zd_iconst E (pc := 20) (v := (-1)) d_S_forget_20 (by decide) ?_
        refine zd_iast E (pc := 21) d_S_forget_21 9 rfl (t0 := 0) rfl (o i) (rfl) (h2 i hin) (by decide) (ws1 := wd k q v (va_up r1 9 (upd (r1 9) (o i) (-1))) ex) rfl ?_
        refine zd_iinc E (pc := 22) d_S_forget_22 rfl (bm_inc i) (by decide) ?_
        refine zd_goto E (pc := 25) 2 d_S_forget_25 (by decide) ?_
        refine ih (i + 1) _ (by omega) (fun j hj => by rw [va_up_ne _ _ hj]; exact hf j hj) (fun s hs hne => ?_)
        rw [va_up_self]
        by_cases e : s = o i
        · subst e; rw [pk_us]
        · rw [pk_un e]
          refine hr s hs (fun j a b => ?_)
          by_cases ej : j = i
          · subst ej; exact fun z => e z.symm
          · exact hne j (by omega) b
  refine zd_iconst E (pc := 0) (v := (nI 0)) d_S_forget_0 (by decide) ?_
  refine zd_istore_n E (pc := 1) d_S_forget_1 (by decide) ?_
  exact loop n 0 r (by omega) (fun _ _ => rfl) (fun s hs hne => h6 s hs (fun j hj => hne j (Nat.zero_le _) hj))
set_option maxRecDepth 100000 in
set_option maxHeartbeats 4000000 in
theorem c_S_settle (l : Launch) (D : va_G) {n t now : Nat} {o d : Nat → Nat} (h : sr_st v r n o d) (ht : t < 1024) (hnow : now < 20000) : zd_Ct l D classes (wd_ty k) gd_T y_S_settle b_S_settle 3 none (zd_rm 0) [.ref (q 7), .int (nI t), .int (nI now)] (wd k q v r ex)
    (fun v1 w1 => ∃ v2 r2 n2 o2 d2, sr_fr v v2 r r2 ∧ r2 11 = r 11 ∧ sr_st v2 r2 n2 o2 d2 ∧ (((∃ i, i < n ∧ o i = t) ∧ n2 = n ∧ o2 = o ∧ d2 = d) ∨ ((∀ i, i < n → o i ≠ t) ∧ n2 = n + 1 ∧ o2 = va_up o n t ∧ d2 = va_up d n now)) ∧ v1 = none ∧ w1 = wd k q v2 r2 ex) := by
  refine zd_met gd_all (by decide) rfl (Nat.le_of_ble_eq_true rfl) (fun Z E => ?_)
  show Z (wd k q v r ex) [some (.ref (q 7)), some (.int (nI t)), some (.int (nI now))] 0 []
  have hn := sr_le h
  have hst := h
  obtain ⟨h1, h2, h3, h4, h5, h6⟩ := h
  refine zd_aload_n E (pc := 0) d_S_settle_0 rfl ?_
  refine zd_get E (pc := 1) d_S_settle_1 kf_S_15 7 rfl rfl ?_
  refine zd_iload_n E (pc := 4) d_S_settle_4 rfl ?_
  refine zd_iald E (pc := 5) d_S_settle_5 9 rfl (t0 := 0) rfl (t) (rfl) (ht) (by decide) ?_
  refine zd_iconst E (pc := 6) (v := (-1)) d_S_settle_6 (by decide) ?_
  by_cases hq : ∃ i, i < n ∧ o i = t
  · have hq1 := hq
    obtain ⟨i, hi, rfl⟩ := hq1
    rw [(h5 i hi).1]
    refine zd_ic_ne E (pc := 7) 37 d_S_settle_7 (by decide) (fun hc => ?_) (fun hc => ?_)
    · exact zd_vret E (pc := 37) d_S_settle_37 ⟨v, r, n, o, d, sr_fr.rf v r, rfl, hst, Or.inl ⟨hq, rfl, rfl, rfl⟩, rfl, rfl⟩
    · exact absurd (Classical.not_not.mp hc) (bm_m1ne (by have := (h5 i hi).2; omega))
  · have hne : ∀ i, i < n → o i ≠ t := fun i hi z => hq ⟨i, hi, z⟩
    rw [h6 t ht hne]
    have hlt : n < 1024 := by
      have := gw_pigeon 1024 (n := n + 1) (o := va_up o n t) (fun i hi => by
        by_cases e : i = n
        · subst e; rw [va_up_self]; exact ht
        · rw [va_up_ne _ _ e]; exact h2 i (by omega)) (fun i j hi hj e => by
        by_cases ei : i = n
        · by_cases ej : j = n
          · omega
          · subst ei
            rw [va_up_self, va_up_ne _ _ ej] at e
            exact (hne j (by omega) e.symm).elim
        · by_cases ej : j = n
          · subst ej
            rw [va_up_self, va_up_ne _ _ ei] at e
            exact (hne i (by omega) e).elim
          · rw [va_up_ne _ _ ei, va_up_ne _ _ ej] at e
            exact h3 i j (by omega) (by omega) e)
      omega
    refine zd_ic_ne E (pc := 7) 37 d_S_settle_7 (by decide) (fun hc => ?_) (fun hc => ?_)
    · exact absurd rfl hc
    · refine zd_aload_n E (pc := 10) d_S_settle_10 rfl ?_
      refine zd_get E (pc := 11) d_S_settle_11 kf_S_15 7 rfl rfl ?_
      refine zd_iload_n E (pc := 14) d_S_settle_14 rfl ?_
      refine zd_iload_n E (pc := 15) d_S_settle_15 rfl ?_
      refine zd_iast E (pc := 16) d_S_settle_16 9 rfl (t0 := 0) rfl (t) (rfl) (ht) (by decide) (ws1 := wd k q v (va_up r 9 (upd (r 9) t (nI now))) ex) rfl ?_
      refine zd_aload_n E (pc := 17) d_S_settle_17 rfl ?_
      refine zd_get E (pc := 18) d_S_settle_18 kf_S_9 7 rfl rfl ?_
      refine zd_aload_n E (pc := 21) d_S_settle_21 rfl ?_
      refine zd_get E (pc := 22) d_S_settle_22 kf_S_45 7 rfl rfl ?_
      rw [h1]
      refine zd_iload_n E (pc := 25) d_S_settle_25 rfl ?_
      refine zd_iast E (pc := 26) d_S_settle_26 8 rfl (t0 := 0) rfl (n) (rfl) (hlt) (by decide) (ws1 := wd k q v (va_up (va_up r 9 (upd (r 9) t (nI now))) 8 (upd (r 8) n (nI t))) ex) rfl ?_
      refine zd_aload_n E (pc := 27) d_S_settle_27 rfl ?_
      refine zd_dup E (pc := 28) d_S_settle_28 rfl ?_
      refine zd_get E (pc := 29) d_S_settle_29 kf_S_45 7 rfl rfl ?_
      rw [h1]
      refine zd_iconst E (pc := 32) (v := (nI 1)) d_S_settle_32 (by decide) ?_
      refine zd_iadd E (pc := 33) d_S_settle_33 ?_
      rw [nI_add]
      refine zd_put E (pc := 34) d_S_settle_34 kp_S_45 7 rfl (Nat.le_of_ble_eq_true rfl) (ws1 := wd k q (upd v 4 (nI (n + 1))) (va_up (va_up r 9 (upd (r 9) t (nI now))) 8 (upd (r 8) n (nI t))) ex) rfl ?_
      have r8 : va_up (va_up r 9 (upd (r 9) t (nI now))) 8 (upd (r 8) n (nI t)) 8 = upd (r 8) n (nI t) := va_up_self _ _ _
      have r9 : va_up (va_up r 9 (upd (r 9) t (nI now))) 8 (upd (r 8) n (nI t)) 9 = upd (r 9) t (nI now) := by rw [va_up_ne _ _ (by decide), va_up_self]
      refine zd_vret E (pc := 37) d_S_settle_37 ⟨upd v 4 (nI (n + 1)), va_up (va_up r 9 (upd (r 9) t (nI now))) 8 (upd (r 8) n (nI t)), n + 1, va_up o n t, va_up d n now, ⟨fun j hj => pk_un hj, fun j a b c e => by rw [va_up_ne _ _ a, va_up_ne _ _ b]⟩, rfl, ⟨pk_us, fun i hi => ?_, fun i j hi hj e => ?_, fun i hi => ?_, fun i hi => ?_, fun s hs hs2 => ?_⟩, Or.inr ⟨hne, rfl, rfl, rfl⟩, rfl, rfl⟩
      · by_cases e : i = n
        · subst e; rw [va_up_self]; exact ht
        · rw [va_up_ne _ _ e]; exact h2 i (by omega)
      · by_cases ei : i = n
        · by_cases ej : j = n
          · omega
          · subst ei
            rw [va_up_self, va_up_ne _ _ ej] at e
            exact (hne j (by omega) e.symm).elim
        · by_cases ej : j = n
          · subst ej
            rw [va_up_self, va_up_ne _ _ ei] at e
            exact (hne i (by omega) e).elim
          · rw [va_up_ne _ _ ei, va_up_ne _ _ ej] at e
            exact h3 i j (by omega) (by omega) e
      · rw [r8]
        by_cases e : i = n
        · subst e; rw [va_up_self, pk_us]
        · rw [va_up_ne _ _ e, pk_un e]; exact h4 i (by omega)
      · rw [r9]
        by_cases e : i = n
        · subst e
          rw [va_up_self, va_up_self, pk_us]
          exact ⟨rfl, hnow⟩
        · rw [va_up_ne _ _ e, va_up_ne _ _ e, pk_un (hne i (by omega))]
          exact h5 i (by omega)
      · rw [r9]
        have e1 : s ≠ t := fun z => by
          have := hs2 n (by omega)
          rw [va_up_self] at this
          exact this z.symm
        rw [pk_un e1]
        refine h6 s hs (fun i hi => ?_)
        have := hs2 i (by omega)
        rw [va_up_ne _ _ (by omega)] at this
        exact this
end SR
end
section
/-! The search by rising cost. -/
/-- what a level of the search adds: states of the cost now, behind the others -/
def sr_ex (now n : Nat) (o d : Nat → Nat) (n1 : Nat) (o1 d1 : Nat → Nat) : Prop := n ≤ n1 ∧ (∀ i, i < n → o1 i = o i ∧ d1 i = d i) ∧ (∀ i, n ≤ i → i < n1 → d1 i = now)
theorem sr_ex.rf (now n : Nat) (o d : Nat → Nat) : sr_ex now n o d n o d := ⟨Nat.le_refl _, fun _ _ => ⟨rfl, rfl⟩, fun i a b => by omega⟩
theorem sr_ex.tr {now n n1 n2 : Nat} {o d o1 d1 o2 d2 : Nat → Nat} (h : sr_ex now n o d n1 o1 d1) (g : sr_ex now n1 o1 d1 n2 o2 d2) : sr_ex now n o d n2 o2 d2 := by
  refine ⟨Nat.le_trans h.1 g.1, fun i hi => ?_, fun i a b => ?_⟩
  · obtain ⟨a, b⟩ := g.2.1 i (Nat.lt_of_lt_of_le hi h.1)
    obtain ⟨c, e⟩ := h.2.1 i hi
    exact ⟨a.trans c, b.trans e⟩
  · by_cases q : i < n1
    · rw [(g.2.1 i q).2]; exact h.2.2 i a q
    · exact g.2.2 i (by omega) b
/-- where the states of a cost below x end -/
def sr_B (n : Nat) (d : Nat → Nat) (x e : Nat) : Prop := e ≤ n ∧ ∀ i, i < n → (d i < x ↔ i < e)
theorem sr_B.ex {now n n1 x e : Nat} {o d o1 d1 : Nat → Nat} (h : sr_B n d x e) (g : sr_ex now n o d n1 o1 d1) (hx : x ≤ now) : sr_B n1 d1 x e := by
  refine ⟨Nat.le_trans h.1 g.1, fun i hi => ?_⟩
  have h1 := h.1
  by_cases q : i < n
  · rw [(g.2.1 i q).2]; exact h.2 i q
  · rw [g.2.2 i (by omega) hi]
    constructor
    · intro z; omega
    · intro z; omega
section XP
variable {k : Nat → ClassId} {q : Nat → Nat} {v : Nat → Int32} {r : Nat → Nat → Int32} {ex : va_W} {nf na fi go : Nat} {co ne ad dr : Nat → Nat}
set_option maxRecDepth 100000 in
set_option maxHeartbeats 4000000 in
theorem c_S_lastSpent (l : Launch) (D : va_G) {n : Nat} {o d : Nat → Nat} (h : sr_st v r n o d) (hn0 : 0 < n) : zd_Ct l D classes (wd_ty k) gd_T y_S_lastSpent b_S_lastSpent 1 (some .int) (zd_rm 0) [.ref (q 7)] (wd k q v r ex) (zd_is (some (.int (nI (d (n - 1))))) (wd k q v r ex)) := by
  refine zd_met gd_all (by decide) rfl (Nat.le_of_ble_eq_true rfl) (fun Z E => ?_)
  show Z (wd k q v r ex) [some (.ref (q 7))] 0 []
  have hn := sr_le h
  obtain ⟨h1, h2, h3, h4, h5, h6⟩ := h
  refine zd_aload_n E (pc := 0) d_S_lastSpent_0 rfl ?_
  refine zd_get E (pc := 1) d_S_lastSpent_1 kf_S_45 7 rfl rfl ?_
  rw [h1]
  refine zd_if_ne E (pc := 4) 11 d_S_lastSpent_4 (by decide) (fun hc => ?_) (fun hc => ?_)
  · refine zd_aload_n E (pc := 11) d_S_lastSpent_11 rfl ?_
    refine zd_get E (pc := 12) d_S_lastSpent_12 kf_S_15 7 rfl rfl ?_
    refine zd_aload_n E (pc := 15) d_S_lastSpent_15 rfl ?_
    refine zd_get E (pc := 16) d_S_lastSpent_16 kf_S_9 7 rfl rfl ?_
    refine zd_aload_n E (pc := 19) d_S_lastSpent_19 rfl ?_
    refine zd_get E (pc := 20) d_S_lastSpent_20 kf_S_45 7 rfl rfl ?_
    rw [h1]
    refine zd_iconst E (pc := 23) (v := (nI 1)) d_S_lastSpent_23 (by decide) ?_
    refine zd_isub E (pc := 24) d_S_lastSpent_24 ?_
    rw [pk_sub (by omega)]
    refine zd_iald E (pc := 25) d_S_lastSpent_25 8 rfl (t0 := 0) rfl (n - 1) (rfl) ((by omega)) (by decide) ?_
    rw [h4 (n - 1) (by omega)]
    refine zd_iald E (pc := 26) d_S_lastSpent_26 9 rfl (t0 := 0) rfl (o (n - 1)) (rfl) (h2 (n - 1) (by omega)) (by decide) ?_
    rw [(h5 (n - 1) (by omega)).1]
    exact zd_iret E (pc := 27) d_S_lastSpent_27 ⟨rfl, rfl⟩
  · exact absurd (Classical.not_not.mp hc) (nI_ne0 hn0 (by omega))
set_option maxRecDepth 100000 in
set_option maxHeartbeats 4000000 in
theorem c_S_spread (l : Launch) (D : va_G) {n s0 a before now e0 e1 : Nat} {o d : Nat → Nat} (t : tk_C v r nf na fi go co ne ad dr) (h : sr_st v r n o d) (hi : se_inv 1024 na (tk_can ne) (tk_af ad dr) co s0 now n o d) (ha : a < na) (hb : before + co a = now) (hnow : now < 10000) (h0 : r 11 (before % 10) = nI e0) (h1 : r 11 ((before + 1) % 10) = nI e1) (hB0 : sr_B n d before e0) (hB1 : sr_B n d (before + 1) e1) (hdone : se_done na (tk_can ne) (tk_af ad dr) co n o d now) :
    zd_Ct l D classes (wd_ty k) gd_T y_S_spread b_S_spread 6 none (zd_rm 2) [.ref (q 7), .int (nI a), .int (nI before), .int (nI now)] (wd k q v r ex)
    (fun v1 w1 => ∃ v2 r2 n2 o2 d2, sr_fr v v2 r r2 ∧ r2 11 = r 11 ∧ sr_st v2 r2 n2 o2 d2 ∧ se_inv 1024 na (tk_can ne) (tk_af ad dr) co s0 now n2 o2 d2 ∧ se_done na (tk_can ne) (tk_af ad dr) co n2 o2 d2 now ∧ sr_ex now n o d n2 o2 d2 ∧ (∀ i, i < n → d i = before → tk_can ne a (o i) = true → ∃ j, j < n2 ∧ o2 j = tk_af ad dr a (o i)) ∧ v1 = none ∧ w1 = wd k q v2 r2 ex) := by
  refine zd_met gd_all (by decide) rfl (Nat.le_of_ble_eq_true rfl) (fun Z E => ?_)
  show Z (wd k q v r ex) [some (.ref (q 7)), some (.int (nI a)), some (.int (nI before)), some (.int (nI now)), none, none] 0 []
  have ha12 : a < 12 := by have := t.hna.2; omega
  have hco9 := (t.hco a ha12).2
  have hco1 := t.2.2.2.2 a ha
  have hn := sr_le h
  have loop : ∀ m i v1 r1 n1 o1 d1, i + m = e1 → e0 ≤ i → sr_fr v v1 r r1 → r1 11 = r 11 → sr_st v1 r1 n1 o1 d1 → se_inv 1024 na (tk_can ne) (tk_af ad dr) co s0 now n1 o1 d1 → se_done na (tk_can ne) (tk_af ad dr) co n1 o1 d1 now → sr_ex now n o d n1 o1 d1 → (∀ j, e0 ≤ j → j < i → tk_can ne a (o j) = true → ∃ j2, j2 < n1 ∧ o1 j2 = tk_af ad dr a (o j)) → Z (wd k q v1 r1 ex) [some (.ref (q 7)), some (.int (nI a)), some (.int (nI before)), some (.int (nI now)), some (.int (nI e1)), some (.int (nI i))] 24 [] := by
    intro m
    induction m with
    | zero =>
      intro i v1 r1 n1 o1 d1 hi1 hi0 hf hf11 hst hinv hdn hex hall
      have e : i = e1 := by omega
      subst e
      have := hB1.1
      refine zd_iload E (pc := 24) d_S_spread_24 rfl ?_
      refine zd_iload E (pc := 26) d_S_spread_26 rfl ?_
      refine zd_nc_ge E (pc := 28) 75 d_S_spread_28 (by decide) ((by omega)) ((by omega)) (fun hc => ?_) (fun hc => ?_)
      · exact zd_vret E (pc := 75) d_S_spread_75 ⟨v1, r1, n1, o1, d1, hf, hf11, hst, hinv, hdn, hex, fun j hj hd hcan => hall j (Nat.not_lt.mp fun z => by have := (hB0.2 j hj).mpr z; omega) ((hB1.2 j hj).mp (by omega)) hcan, rfl, rfl⟩
      · omega
    | succ m ih =>
      intro i v1 r1 n1 o1 d1 hi1 hi0 hf hf11 hst hinv hdn hex hall
      have hB1n := hB1.1
      have hin : i < n := by omega
      have hin1 : i < n1 := Nat.lt_of_lt_of_le hin hex.1
      have hn1 := sr_le hst
      have t1 := hf.tk t
      have hdi : d i = before := by
        have z1 := (hB1.2 i hin).mpr (by omega)
        have z0 : ¬ d i < before := fun z => by have := (hB0.2 i hin).mp z; omega
        omega
      obtain ⟨eo, ed⟩ := hex.2.1 i hin
      have o8 : r1 8 i = nI (o1 i) := hst.2.2.2.1 i hin1
      have oN : o1 i < 1024 := hst.2.1 i hin1
      have tail : ∀ v2 r2 n2 o2 d2, sr_fr v v2 r r2 → r2 11 = r 11 → sr_st v2 r2 n2 o2 d2 → se_inv 1024 na (tk_can ne) (tk_af ad dr) co s0 now n2 o2 d2 → se_done na (tk_can ne) (tk_af ad dr) co n2 o2 d2 now → sr_ex now n1 o1 d1 n2 o2 d2 → (tk_can ne a (o i) = true → ∃ j2, j2 < n2 ∧ o2 j2 = tk_af ad dr a (o i)) → Z (wd k q v2 r2 ex) [some (.ref (q 7)), some (.int (nI a)), some (.int (nI before)), some (.int (nI now)), some (.int (nI e1)), some (.int (nI i))] 69 [] := by
        intro v2 r2 n2 o2 d2 hf2 hf112 hst2 hinv2 hdn2 hex2 hone
        refine zd_iinc E (pc := 69) d_S_spread_69 rfl (bm_inc i) (by decide) ?_
        refine zd_goto E (pc := 72) 24 d_S_spread_72 (by decide) ?_
        refine ih (i + 1) v2 r2 n2 o2 d2 (by omega) (by omega) hf2 hf112 hst2 hinv2 hdn2 (hex.tr hex2) (fun j a1 a2 hcan => ?_)
        by_cases e : j = i
        · subst e; exact hone hcan
        · obtain ⟨j2, b1, b2⟩ := hall j a1 (by omega) hcan
          exact ⟨j2, Nat.lt_of_lt_of_le b1 hex2.1, by rw [(hex2.2.1 j2 b1).1]; exact b2⟩
      refine zd_iload E (pc := 24) d_S_spread_24 rfl ?_
      refine zd_iload E (pc := 26) d_S_spread_26 rfl ?_
      refine zd_nc_ge E (pc := 28) 75 d_S_spread_28 (by decide) ((by omega)) ((by omega)) (fun hc => ?_) (fun hc => ?_)
      · omega
      · refine zd_aload_n E (pc := 31) d_S_spread_31 rfl ?_
        refine zd_get E (pc := 32) d_S_spread_32 kf_S_24 7 rfl rfl ?_
        refine zd_iload_n E (pc := 35) d_S_spread_35 rfl ?_
        refine zd_aload_n E (pc := 36) d_S_spread_36 rfl ?_
        refine zd_get E (pc := 37) d_S_spread_37 kf_S_9 7 rfl rfl ?_
        refine zd_iload E (pc := 40) d_S_spread_40 rfl ?_
        refine zd_iald E (pc := 42) d_S_spread_42 8 rfl (t0 := 0) rfl (i) (rfl) ((by omega)) (by decide) ?_
        rw [o8]
        refine zd_callV E (pc := 43) d_S_spread_43 kc_S_83 rfl ki_T_allows ke_T_allows 1 rfl rfl (c_T_allows l D ha12 t1.hne) (by decide) rfl (Nat.le_of_ble_eq_true rfl) (fun v1 ws1 hv1 => ?_)
        obtain ⟨rfl, rfl⟩ := hv1
        refine zd_bf_eq E (pc := 46) 69 d_S_spread_46 (by decide) (fun hcan => ?_) (fun hcan => ?_)
        · refine tail v1 r1 n1 o1 d1 hf hf11 hst hinv hdn (sr_ex.rf _ _ _ _) (fun hz => ?_)
          exfalso
          apply hcan
          rw [eo]
          simpa [tk_can] using hz
        · refine zd_aload_n E (pc := 49) d_S_spread_49 rfl ?_
          refine zd_aload_n E (pc := 50) d_S_spread_50 rfl ?_
          refine zd_get E (pc := 51) d_S_spread_51 kf_S_24 7 rfl rfl ?_
          refine zd_iload_n E (pc := 54) d_S_spread_54 rfl ?_
          refine zd_aload_n E (pc := 55) d_S_spread_55 rfl ?_
          refine zd_get E (pc := 56) d_S_spread_56 kf_S_9 7 rfl rfl ?_
          refine zd_iload E (pc := 59) d_S_spread_59 rfl ?_
          refine zd_iald E (pc := 61) d_S_spread_61 8 rfl (t0 := 0) rfl (i) (rfl) ((by omega)) (by decide) ?_
          rw [o8]
          refine zd_callV E (pc := 62) d_S_spread_62 kc_S_79 rfl ki_T_after ke_T_after 1 rfl rfl (c_T_after l D ha12 t1.had0 t1.hdr0) (by decide) rfl (Nat.le_of_ble_eq_true rfl) (fun v1 ws1 hv1 => ?_)
          obtain ⟨rfl, rfl⟩ := hv1
          refine zd_iload_n E (pc := 65) d_S_spread_65 rfl ?_
          have haf : bm_dif (o1 i) (dr a) ||| ad a < 1024 := t1.haf ha12 oN
          refine zd_callV E (pc := 66) d_S_spread_66 kc_S_37 rfl ki_S_settle ke_S_settle 7 rfl rfl (c_S_settle l D hst haf (by omega)) (by decide) rfl (Nat.le_of_ble_eq_true rfl) (fun v1 ws1 hv1 => ?_)
          obtain ⟨v2, r2, n2, o2, d2, hf2, hf112, hst2, hcase, rfl, rfl⟩ := hv1
          have hcan1 : tk_can ne a (o1 i) = true := by simp [tk_can, hcan]
          rcases hcase with ⟨⟨j, hj, hje⟩, rfl, rfl, rfl⟩ | ⟨hnew, rfl, rfl, rfl⟩
          · exact tail v2 r2 n2 o2 d2 (hf.tr hf2) (hf112.trans hf11) hst2 hinv hdn (sr_ex.rf _ _ _ _) (fun _ => ⟨j, hj, by rw [hje, ← eo]; rfl⟩)
          · refine tail v2 r2 _ _ _ (hf.tr hf2) (hf112.trans hf11) hst2 (se_push hinv hin1 ha hcan1 (by rw [ed, hdi]; exact hb) hco9 haf hnew) (se_done_push hdn t.2.2.2.2 (by omega)) ⟨by omega, fun j hj => ⟨va_up_ne _ _ (by omega), va_up_ne _ _ (by omega)⟩, fun j a1 a2 => by rw [show j = n1 by omega, va_up_self]⟩ (fun _ => ⟨n1, by omega, by rw [va_up_self, ← eo]; rfl⟩)
  have hB0n := hB0.1
  have hB1n := hB1.1
  have he : e0 ≤ e1 := by
    by_cases z : e0 ≤ e1
    · exact z
    · exfalso
      have z1 := (hB0.2 e1 (by omega)).mpr (by omega)
      have z2 := (hB1.2 e1 (by omega)).mp (by omega)
      omega
  refine zd_aload_n E (pc := 0) d_S_spread_0 rfl ?_
  refine zd_get E (pc := 1) d_S_spread_1 kf_S_21 7 rfl rfl ?_
  refine zd_iload_n E (pc := 4) d_S_spread_4 rfl ?_
  refine zd_iconst E (pc := 5) (v := (nI 1)) d_S_spread_5 (by decide) ?_
  refine zd_iadd E (pc := 6) d_S_spread_6 ?_
  rw [nI_add]
  refine zd_bipush E (pc := 7) (v := (nI 10)) d_S_spread_7 (by decide) ?_
  refine zd_irem E (pc := 9) d_S_spread_9 (by decide) ?_
  rw [pk_rem (by omega) (by decide) (by decide)]
  refine zd_iald E (pc := 10) d_S_spread_10 11 rfl (t0 := 0) rfl ((before + 1) % 10) (rfl) (Nat.mod_lt _ (by decide)) (by decide) ?_
  rw [h1]
  refine zd_istore E (pc := 11) d_S_spread_11 (by decide) ?_
  refine zd_aload_n E (pc := 13) d_S_spread_13 rfl ?_
  refine zd_get E (pc := 14) d_S_spread_14 kf_S_21 7 rfl rfl ?_
  refine zd_iload_n E (pc := 17) d_S_spread_17 rfl ?_
  refine zd_bipush E (pc := 18) (v := (nI 10)) d_S_spread_18 (by decide) ?_
  refine zd_irem E (pc := 20) d_S_spread_20 (by decide) ?_
  rw [pk_rem (by omega) (by decide) (by decide)]
  refine zd_iald E (pc := 21) d_S_spread_21 11 rfl (t0 := 0) rfl (before % 10) (rfl) (Nat.mod_lt _ (by decide)) (by decide) ?_
  rw [h0]
  refine zd_istore E (pc := 22) d_S_spread_22 (by decide) ?_
  exact loop (e1 - e0) e0 v r n o d (by omega) (Nat.le_refl _) (sr_fr.rf v r) rfl h hi hdone (sr_ex.rf _ _ _ _) (fun j a1 a2 => by omega)
end XP
end
section
/-! explore: all states that come from one, in the order of the least cost. -/
theorem se_one {na s0 : Nat} {can : Nat → Nat → Bool} {af : Nat → Nat → Nat} {co o d : Nat → Nat} {N : Nat} (hs : s0 < N) (ho : o 0 = s0) (hd : d 0 = 0) : se_inv N na can af co s0 0 1 o d := by
  have e : ∀ i, i < 1 → i = 0 := fun i hi => by omega
  refine ⟨by omega, ho, hd, fun i hi => ?_, fun i j hi hj _ => by omega, fun i j hij hj => ?_, fun i hi => ?_, fun i hi => ?_, fun i hi => by omega⟩
  · rw [e i hi, ho]; exact hs
  · rw [e i (by omega), e j hj]; exact Nat.le_refl _
  · rw [e i hi, ho, hd]; exact gw_R_0 _
  · rw [e i hi, hd]; exact Nat.le_refl _
section EX
variable {k : Nat → ClassId} {q : Nat → Nat} {v : Nat → Int32} {r : Nat → Nat → Int32} {ex : va_W} {nf na fi go : Nat} {co ne ad dr : Nat → Nat}
set_option maxRecDepth 100000 in
set_option maxHeartbeats 4000000 in
theorem c_S_explore (l : Launch) (D : va_G) {n0 s0 : Nat} {o0 d0 : Nat → Nat} (t : tk_C v r nf na fi go co ne ad dr) (h : sr_st v r n0 o0 d0) (hs0 : s0 < 1024) : zd_Ct l D classes (wd_ty k) gd_T y_S_explore b_S_explore 5 none (zd_rm 3) [.ref (q 7), .int (nI s0)] (wd k q v r ex)
    (fun v1 w1 => ∃ v2 r2 n o d, sr_fr v v2 r r2 ∧ sr_st v2 r2 n o d ∧ gw_ok 1024 na (tk_can ne) (tk_af ad dr) co s0 n o d ∧ v1 = none ∧ w1 = wd k q v2 r2 ex) := by
  refine zd_met gd_all (by decide) rfl (Nat.le_of_ble_eq_true rfl) (fun Z E => ?_)
  show Z (wd k q v r ex) [some (.ref (q 7)), some (.int (nI s0)), none, none, none] 0 []
  have hna := t.hna.2
  have hco1 := t.2.2.2.2
  have hco9 : ∀ a, a < na → co a ≤ 9 := fun a ha => (t.hco a (by omega)).2
  have acts : ∀ m a now v1 r1 n o d L4, a + m = na → 1 ≤ now → now ≤ 9207 → sr_fr v v1 r r1 → sr_st v1 r1 n o d → se_inv 1024 na (tk_can ne) (tk_af ad dr) co s0 now n o d → se_done na (tk_can ne) (tk_af ad dr) co n o d now → (∀ x, x ≤ now → now ≤ x + 9 → ∃ e, r1 11 (x % 10) = nI e ∧ sr_B n d x e) → (∀ i b, i < n → b < a → tk_can ne b (o i) = true → d i + co b = now → ∃ j, j < n ∧ o j = tk_af ad dr b (o i)) →
      (∀ v1 r1 n o d L4, sr_fr v v1 r r1 → sr_st v1 r1 n o d → se_inv 1024 na (tk_can ne) (tk_af ad dr) co s0 now n o d → se_done na (tk_can ne) (tk_af ad dr) co n o d (now + 1) → (∀ x, x ≤ now → now ≤ x + 9 → ∃ e, r1 11 (x % 10) = nI e ∧ sr_B n d x e) → Z (wd k q v1 r1 ex) [some (.ref (q 7)), some (.int (nI s0)), some (.int (nI now)), none, L4] 95 []) →
      Z (wd k q v1 r1 ex) [some (.ref (q 7)), some (.int (nI s0)), some (.int (nI now)), some (.int (nI a)), L4] 52 [] := by
    intro m
    induction m with
    | zero =>
      intro a now v1 r1 n o d L4 ha hn1 hn2 hf hst hinv hdn hB hall kk
      have e : a = na := by omega
      subst e
      have t1 := hf.tk t
      refine zd_iload_n E (pc := 52) d_S_explore_52 rfl ?_
      refine zd_aload_n E (pc := 53) d_S_explore_53 rfl ?_
      refine zd_get E (pc := 54) d_S_explore_54 kf_S_24 7 rfl rfl ?_
      refine zd_get E (pc := 57) d_S_explore_57 kf_S_49 1 rfl rfl ?_
      rw [t1.hna.1]
      refine zd_nc_ge E (pc := 60) 95 d_S_explore_60 (by decide) ((by omega)) ((by omega)) (fun hq => ?_) (fun hq => ?_)
      · refine zd_less E ?_ (kk v1 r1 n o d L4 hf hst hinv (fun i b hi hb hcan hlt => ?_) hB)
        · cases L4 <;> exact ⟨rfl, rfl, rfl, by first | exact trivial | exact ⟨rfl, trivial⟩⟩
        · by_cases z : d i + co b < now
          · exact hdn i b hi hb hcan z
          · obtain ⟨j, hj, he⟩ := hall i b hi hb hcan (by omega)
            exact ⟨j, hj, he, by have := hinv.2.2.2.2.2.2.2.1 j hj; omega⟩
      · omega
    | succ m ih =>
      intro a now v1 r1 n o d L4 ha hn1 hn2 hf hst hinv hdn hB hall kk
      have t1 := hf.tk t
      have ha12 : a < 12 := by omega
      have han : a < na := by omega
      have c9 := hco9 a han
      have c1 := hco1 a han
      have tail : ∀ v1 r1 n o d L4, sr_fr v v1 r r1 → sr_st v1 r1 n o d → se_inv 1024 na (tk_can ne) (tk_af ad dr) co s0 now n o d → se_done na (tk_can ne) (tk_af ad dr) co n o d now → (∀ x, x ≤ now → now ≤ x + 9 → ∃ e, r1 11 (x % 10) = nI e ∧ sr_B n d x e) → (∀ i b, i < n → b < a + 1 → tk_can ne b (o i) = true → d i + co b = now → ∃ j, j < n ∧ o j = tk_af ad dr b (o i)) → Z (wd k q v1 r1 ex) [some (.ref (q 7)), some (.int (nI s0)), some (.int (nI now)), some (.int (nI a)), L4] 89 [] := by
        intro v1 r1 n o d L4 hf hst hinv hdn hB hall
        refine zd_iinc E (pc := 89) d_S_explore_89 rfl (bm_inc a) (by decide) ?_
        refine zd_goto E (pc := 92) 52 d_S_explore_92 (by decide) ?_
        exact ih (a + 1) now v1 r1 n o d L4 (by omega) hn1 hn2 hf hst hinv hdn hB hall kk
      refine zd_iload_n E (pc := 52) d_S_explore_52 rfl ?_
      refine zd_aload_n E (pc := 53) d_S_explore_53 rfl ?_
      refine zd_get E (pc := 54) d_S_explore_54 kf_S_24 7 rfl rfl ?_
      refine zd_get E (pc := 57) d_S_explore_57 kf_S_49 1 rfl rfl ?_
      rw [t1.hna.1]
      refine zd_nc_ge E (pc := 60) 95 d_S_explore_60 (by decide) ((by omega)) ((by omega)) (fun hq => ?_) (fun hq => ?_)
      · omega
      · refine zd_iload_n E (pc := 63) d_S_explore_63 rfl ?_
        refine zd_aload_n E (pc := 64) d_S_explore_64 rfl ?_
        refine zd_get E (pc := 65) d_S_explore_65 kf_S_24 7 rfl rfl ?_
        refine zd_get E (pc := 68) d_S_explore_68 kf_S_54 1 rfl rfl ?_
        refine zd_iload_n E (pc := 71) d_S_explore_71 rfl ?_
        refine zd_iald E (pc := 72) d_S_explore_72 2 rfl (t0 := 0) rfl (a) (rfl) (ha12) (by decide) ?_
        rw [(t1.hco a ha12).1]
        by_cases hle : co a ≤ now
        · refine zd_isub E (pc := 73) d_S_explore_73 ?_
          rw [pk_sub hle]
          refine zd_istore E (pc := 74) d_S_explore_74 (by decide) ?_
          refine zd_iload E (pc := 76) d_S_explore_76 rfl ?_
          refine zd_if_lt E (pc := 78) 89 d_S_explore_78 (by decide) (fun hneg => ?_) (fun hneg => ?_)
          · exact absurd hneg (nI_pos (by omega))
          · refine zd_aload_n E (pc := 81) d_S_explore_81 rfl ?_
            refine zd_iload_n E (pc := 82) d_S_explore_82 rfl ?_
            refine zd_iload E (pc := 83) d_S_explore_83 rfl ?_
            refine zd_iload_n E (pc := 85) d_S_explore_85 rfl ?_
            obtain ⟨e0, g0, b0⟩ := hB (now - co a) (by omega) (by omega)
            obtain ⟨e1, g1, b1⟩ := hB (now - co a + 1) (by omega) (by omega)
            refine zd_callV E (pc := 86) d_S_explore_86 kc_S_57 rfl ki_S_spread ke_S_spread 7 rfl rfl (c_S_spread l D t1 hst hinv han (show now - co a + co a = now by omega) (by omega) g0 g1 b0 b1 hdn) (by decide) rfl (Nat.le_of_ble_eq_true rfl) (fun v1 ws1 hv1 => ?_)
            obtain ⟨v2, r2, n2, o2, d2, hf2, hf11, hst2, hinv2, hdn2, hex, hsp, rfl, rfl⟩ := hv1
            refine tail v2 r2 n2 o2 d2 _ (hf.tr hf2) hst2 hinv2 hdn2 (fun x hx1 hx2 => ?_) (fun i b hi hb hcan hd => ?_)
            · obtain ⟨e, z1, z2⟩ := hB x hx1 hx2
              exact ⟨e, by rw [hf11]; exact z1, z2.ex hex hx1⟩
            · by_cases z : i < n
              · obtain ⟨eo, ed⟩ := hex.2.1 i z
                rw [eo] at hcan ⊢
                rw [ed] at hd
                by_cases hba : b = a
                · subst hba
                  exact hsp i z (by omega) hcan
                · obtain ⟨j, hj, he⟩ := hall i b z (by omega) hcan hd
                  exact ⟨j, Nat.lt_of_lt_of_le hj hex.1, by rw [(hex.2.1 j hj).1]; exact he⟩
              · have := hex.2.2 i (by omega) hi
                have := hco1 b (by omega)
                omega
        · refine zd_isub E (pc := 73) d_S_explore_73 ?_
          refine zd_istore E (pc := 74) d_S_explore_74 (by decide) ?_
          refine zd_iload E (pc := 76) d_S_explore_76 rfl ?_
          refine zd_if_lt E (pc := 78) 89 d_S_explore_78 (by decide) (fun hneg => ?_) (fun hneg => ?_)
          · refine tail v1 r1 n o d _ hf hst hinv hdn hB (fun i b hi hb hcan hd => ?_)
            by_cases hba : b = a
            · subst hba; omega
            · exact hall i b hi (by omega) hcan hd
          · exact absurd (pk_sneg (by omega) (by omega)) hneg
  have levels : ∀ m now v1 r1 n o d L3 L4, now + m = 9208 → 1 ≤ now → sr_fr v v1 r r1 → sr_st v1 r1 n o d → se_inv 1024 na (tk_can ne) (tk_af ad dr) co s0 (now - 1) n o d → se_done na (tk_can ne) (tk_af ad dr) co n o d now → (∀ x, x < now → now ≤ x + 9 → ∃ e, r1 11 (x % 10) = nI e ∧ sr_B n d x e) →
      Z (wd k q v1 r1 ex) [some (.ref (q 7)), some (.int (nI s0)), some (.int (nI now)), L3, L4] 19 [] := by
    intro m
    induction m with
    | zero =>
      intro now v1 r1 n o d L3 L4 hm hn1 hf hst hinv hdn hB
      have e : now = 9208 := by omega
      subst e
      refine zd_iload_n E (pc := 19) d_S_explore_19 rfl ?_
      refine zd_sipush E (pc := 20) (v := (nI 9207)) d_S_explore_20 (by decide) ?_
      refine zd_nc_gt E (pc := 23) 101 d_S_explore_23 (by decide) ((by omega)) ((by omega)) (fun hq => ?_) (fun hq => ?_)
      · exact zd_vret E (pc := 101) d_S_explore_101 ⟨v1, r1, n, o, d, hf, hst, se_end hinv (fun s a hs ha _ => t.haf (by omega) hs) hco9 hdn (Or.inr rfl), rfl, rfl⟩
      · omega
    | succ m ih =>
      intro now v1 r1 n o d L3 L4 hm hn1 hf hst hinv hdn hB
      have hn0 := hinv.1
      have hlast : d (n - 1) ≤ now - 1 := hinv.2.2.2.2.2.2.2.1 (n - 1) (by omega)
      refine zd_iload_n E (pc := 19) d_S_explore_19 rfl ?_
      refine zd_sipush E (pc := 20) (v := (nI 9207)) d_S_explore_20 (by decide) ?_
      refine zd_nc_gt E (pc := 23) 101 d_S_explore_23 (by decide) ((by omega)) ((by omega)) (fun hq => ?_) (fun hq => ?_)
      · omega
      · refine zd_iload_n E (pc := 26) d_S_explore_26 rfl ?_
        refine zd_aload_n E (pc := 27) d_S_explore_27 rfl ?_
        refine zd_callV E (pc := 28) d_S_explore_28 kc_S_41 rfl ki_S_lastSpent ke_S_lastSpent 7 rfl rfl (c_S_lastSpent l D hst hn0) (by decide) rfl (Nat.le_of_ble_eq_true rfl) (fun v1 ws1 hv1 => ?_)
        obtain ⟨rfl, rfl⟩ := hv1
        refine zd_bipush E (pc := 31) (v := (nI 9)) d_S_explore_31 (by decide) ?_
        refine zd_iadd E (pc := 33) d_S_explore_33 ?_
        rw [nI_add]
        refine zd_nc_gt E (pc := 34) 101 d_S_explore_34 (by decide) ((by omega)) ((by omega)) (fun hq2 => ?_) (fun hq2 => ?_)
        · exact zd_vret E (pc := 101) d_S_explore_101 ⟨v1, r1, n, o, d, hf, hst, se_end hinv (fun s a hs ha _ => t.haf (by omega) hs) hco9 hdn (Or.inl hq2), rfl, rfl⟩
        · refine zd_aload_n E (pc := 37) d_S_explore_37 rfl ?_
          refine zd_get E (pc := 38) d_S_explore_38 kf_S_21 7 rfl rfl ?_
          refine zd_iload_n E (pc := 41) d_S_explore_41 rfl ?_
          refine zd_bipush E (pc := 42) (v := (nI 10)) d_S_explore_42 (by decide) ?_
          refine zd_irem E (pc := 44) d_S_explore_44 (by decide) ?_
          rw [pk_rem (by omega) (by decide) (by decide)]
          refine zd_aload_n E (pc := 45) d_S_explore_45 rfl ?_
          refine zd_get E (pc := 46) d_S_explore_46 kf_S_45 7 rfl rfl ?_
          rw [hst.1]
          refine zd_iast E (pc := 49) d_S_explore_49 11 rfl (t0 := 0) rfl (now % 10) (rfl) (Nat.mod_lt _ (by decide)) (by decide) (ws1 := wd k q v1 (va_up r1 11 (upd (r1 11) (now % 10) (nI n))) ex) rfl ?_
          refine zd_iconst E (pc := 50) (v := (nI 0)) d_S_explore_50 (by decide) ?_
          refine zd_istore_n E (pc := 51) d_S_explore_51 (by decide) ?_
          have hf2 : sr_fr v1 v1 r1 (va_up r1 11 (upd (r1 11) (now % 10) (nI n))) := ⟨fun _ _ => rfl, fun i a b c e => va_up_ne _ _ e⟩
          have hinv2 : se_inv 1024 na (tk_can ne) (tk_af ad dr) co s0 now n o d := by
            have := se_next hinv
            rw [show now - 1 + 1 = now by omega] at this
            exact this
          refine acts na 0 now v1 _ n o d _ (by omega) hn1 (by omega) (hf.tr hf2) ⟨hst.1, hst.2.1, hst.2.2.1, fun i hi => hst.2.2.2.1 i hi, fun i hi => hst.2.2.2.2.1 i hi, fun s hs hne => hst.2.2.2.2.2 s hs hne⟩ hinv2 hdn (fun x hx1 hx2 => ?_) (fun i b hi hb => by omega) (fun v2 r2 n2 o2 d2 L5 hf3 hst3 hinv3 hdn3 hB3 => ?_)
          · rw [va_up_self]
            by_cases e : x = now
            · subst e
              refine ⟨n, by rw [pk_us], Nat.le_refl _, fun i hi => ⟨fun _ => hi, fun _ => ?_⟩⟩
              have := hinv.2.2.2.2.2.2.2.1 i hi
              omega
            · obtain ⟨e1, z1, z2⟩ := hB x (by omega) hx2
              exact ⟨e1, by rw [pk_un (by omega)]; exact z1, z2⟩
          · refine zd_iinc E (pc := 95) d_S_explore_95 rfl (bm_inc now) (by decide) ?_
            refine zd_goto E (pc := 98) 19 d_S_explore_98 (by decide) ?_
            exact ih (now + 1) v2 r2 n2 o2 d2 none L5 (by omega) (by omega) hf3 hst3 (by rw [Nat.add_sub_cancel]; exact hinv3) hdn3 (fun x hx1 hx2 => hB3 x (by omega) (by omega))
  refine zd_aload_n E (pc := 0) d_S_explore_0 rfl ?_
  refine zd_callV E (pc := 1) d_S_explore_1 kc_S_34 rfl ki_S_forget ke_S_forget 7 rfl rfl (c_S_forget l D h) (by decide) rfl (Nat.le_of_ble_eq_true rfl) (fun v1 ws1 hv1 => ?_)
  obtain ⟨v1, r1, hf, hst, rfl, rfl⟩ := hv1
  refine zd_aload_n E (pc := 4) d_S_explore_4 rfl ?_
  refine zd_get E (pc := 5) d_S_explore_5 kf_S_21 7 rfl rfl ?_
  refine zd_iconst E (pc := 8) (v := (nI 0)) d_S_explore_8 (by decide) ?_
  refine zd_iconst E (pc := 9) (v := (nI 0)) d_S_explore_9 (by decide) ?_
  refine zd_iast E (pc := 10) d_S_explore_10 11 rfl (t0 := 0) rfl (0) (rfl) (by decide) (by decide) (ws1 := wd k q v1 (va_up r1 11 (upd (r1 11) 0 (nI 0))) ex) rfl ?_
  refine zd_aload_n E (pc := 11) d_S_explore_11 rfl ?_
  refine zd_iload_n E (pc := 12) d_S_explore_12 rfl ?_
  refine zd_iconst E (pc := 13) (v := (nI 0)) d_S_explore_13 (by decide) ?_
  have hst1 : sr_st v1 (va_up r1 11 (upd (r1 11) 0 (nI 0))) 0 o0 d0 := ⟨hst.1, hst.2.1, hst.2.2.1, fun i hi => by omega, fun i hi => by omega, fun s hs hne => hst.2.2.2.2.2 s hs hne⟩
  have hf1 : sr_fr v1 v1 r1 (va_up r1 11 (upd (r1 11) 0 (nI 0))) := ⟨fun _ _ => rfl, fun i a b c e => va_up_ne _ _ e⟩
  refine zd_callV E (pc := 14) d_S_explore_14 kc_S_37 rfl ki_S_settle ke_S_settle 7 rfl rfl (c_S_settle l D hst1 hs0 (show 0 < 20000 by decide)) (by decide) rfl (Nat.le_of_ble_eq_true rfl) (fun v1 ws1 hv1 => ?_)
  obtain ⟨v2, r2, n2, o2, d2, hf2, hf11, hst2, hcase, rfl, rfl⟩ := hv1
  rcases hcase with ⟨⟨j, hj, -⟩, -⟩ | ⟨-, rfl, rfl, rfl⟩
  · omega
  · refine zd_iconst E (pc := 17) (v := (nI 1)) d_S_explore_17 (by decide) ?_
    refine zd_istore_n E (pc := 18) d_S_explore_18 (by decide) ?_
    have hinv := se_one (na := na) (can := tk_can ne) (af := tk_af ad dr) (co := co) (o := va_up o0 0 s0) (d := va_up d0 0 0) hs0 (va_up_self _ _ _) (va_up_self _ _ _)
    refine levels 9207 1 v2 r2 1 _ _ none none rfl (Nat.le_refl _) ((hf.tr hf1).tr hf2) hst2 hinv (fun i a hi ha hcan hlt => ?_) (fun x hx1 hx2 => ⟨0, ?_, Nat.zero_le _, fun i hi => ?_⟩)
    · have := hco1 a ha
      omega
    · rw [show x = 0 by omega, hf11, va_up_self]
      exact pk_us
    · omega
end EX
end
section
/-! What is read off a search: cameTo, leastToMet, the best plan. -/
/-- the way on from a state, as the array holds it -/
def sr_on (r : Nat → Nat → Int32) (s : Nat) : Int := (r 10 s).toInt
theorem sr_on_ne {r : Nat → Nat → Int32} {s : Nat} : sr_on r s ≠ -1 ↔ r 10 s ≠ -1 := by
  have e : ((-1 : Int32)).toInt = -1 := by decide
  unfold sr_on
  constructor
  · intro h z; rw [z] at h; exact h e
  · intro h z; exact h (Int32.toInt_inj.mp (z.trans e.symm))
/-- the i-th state's way on is as it should be -/
def gw_onc (n na : Nat) (can : Nat → Nat → Bool) (af : Nat → Nat → Nat) (co : Nat → Nat) (met : Nat → Bool) (least : Nat) (o d : Nat → Nat) (on : Nat → Int) (i : Nat) : Prop :=
  ((d i = least ∧ met (o i) = true) ∧ on (o i) = -2) ∨ (¬ (d i = least ∧ met (o i) = true) ∧ ((∃ a, a < na ∧ gw_on1 n can af co o d on i a ∧ (∀ b, b < a → ¬ gw_on1 n can af co o d on i b) ∧ on (o i) = (a : Int)) ∨ ((∀ a, a < na → ¬ gw_on1 n can af co o d on i a) ∧ on (o i) = -1)))
/-- a way: p goes on by what stands in on -/
def gw_way (af : Nat → Nat → Nat) (on : Nat → Int) (s0 m : Nat) (p it : Nat → Nat) : Prop := p 0 = s0 ∧ (∀ j, j < m → on (p j) = (it j : Int) ∧ p (j + 1) = af (it j) (p j)) ∧ (m = 1023 ∨ on (p m) < 0) ∧ m ≤ 1023
section BS
variable {k : Nat → ClassId} {q : Nat → Nat} {v : Nat → Int32} {r : Nat → Nat → Int32} {ex : va_W} {nf na fi go : Nat} {co ne ad dr : Nat → Nat}
set_option maxRecDepth 100000 in
set_option maxHeartbeats 4000000 in
theorem c_S_cameTo (l : Launch) (D : va_G) {n M : Nat} {o d : Nat → Nat} (h : sr_st v r n o d) (hM : M < 2 ^ 31) : zd_Ct l D classes (wd_ty k) gd_T y_S_cameTo b_S_cameTo 3 (some .boolean) (zd_rm 1) [.ref (q 7), .int (nI M)] (wd k q v r ex)
    (fun v1 w1 => ∃ b : Bool, (b = true ↔ ∃ i, i < n ∧ o i &&& M = M) ∧ v1 = some (.int (nI (bm_b b))) ∧ w1 = wd k q v r ex) := by
  refine zd_met gd_all (by decide) rfl (Nat.le_of_ble_eq_true rfl) (fun Z E => ?_)
  show Z (wd k q v r ex) [some (.ref (q 7)), some (.int (nI M)), none] 0 []
  have hn := sr_le h
  obtain ⟨h1, h2, h3, h4, h5, h6⟩ := h
  have loop : ∀ m i, i + m = n → (∀ j, j < i → ¬ (o j &&& M = M)) → Z (wd k q v r ex) [some (.ref (q 7)), some (.int (nI M)), some (.int (nI i))] 2 [] := by
    intro m
    induction m with
    | zero =>
      intro i hi hno
      have e : i = n := by omega
      subst e
      refine zd_iload_n E (pc := 2) d_S_cameTo_2 rfl ?_
      refine zd_aload_n E (pc := 3) d_S_cameTo_3 rfl ?_
      refine zd_get E (pc := 4) d_S_cameTo_4 kf_S_45 7 rfl rfl ?_
      rw [h1]
      refine zd_nc_ge E (pc := 7) 31 d_S_cameTo_7 (by decide) ((by omega)) ((by omega)) (fun hc => ?_) (fun hc => ?_)
      · refine zd_iconst E (pc := 31) (v := (nI 0)) d_S_cameTo_31 (by decide) ?_
        exact zd_zret E (pc := 32) d_S_cameTo_32 (by decide) ⟨false, ⟨(fun z => by cases z), fun ⟨j, hj, hz⟩ => (hno j hj hz).elim⟩, rfl, rfl⟩
      · omega
    | succ m ih =>
      intro i hi hno
      refine zd_iload_n E (pc := 2) d_S_cameTo_2 rfl ?_
      refine zd_aload_n E (pc := 3) d_S_cameTo_3 rfl ?_
      refine zd_get E (pc := 4) d_S_cameTo_4 kf_S_45 7 rfl rfl ?_
      rw [h1]
      refine zd_nc_ge E (pc := 7) 31 d_S_cameTo_7 (by decide) ((by omega)) ((by omega)) (fun hc => ?_) (fun hc => ?_)
      · omega
      · refine zd_aload_n E (pc := 10) d_S_cameTo_10 rfl ?_
        refine zd_get E (pc := 11) d_S_cameTo_11 kf_S_9 7 rfl rfl ?_
        refine zd_iload_n E (pc := 14) d_S_cameTo_14 rfl ?_
        refine zd_iald E (pc := 15) d_S_cameTo_15 8 rfl (t0 := 0) rfl (i) (rfl) ((by omega)) (by decide) ?_
        rw [h4 i (by omega)]
        refine zd_iload_n E (pc := 16) d_S_cameTo_16 rfl ?_
        refine zd_callS E (pc := 17) d_S_cameTo_17 kc_S_61 rfl ks_P_hasAll (c_P_hasAll l D _ _ (S := o i) hM) (by decide) rfl (Nat.le_of_ble_eq_true rfl) (fun v1 ws1 hv1 => ?_)
        obtain ⟨rfl, rfl⟩ := hv1
        refine zd_bf_eq E (pc := 20) 25 d_S_cameTo_20 (by decide) (fun hb => ?_) (fun hb => ?_)
        · refine zd_iinc E (pc := 25) d_S_cameTo_25 rfl (bm_inc i) (by decide) ?_
          refine zd_goto E (pc := 28) 2 d_S_cameTo_28 (by decide) ?_
          refine ih (i + 1) (by omega) (fun j hj => ?_)
          by_cases e : j = i
          · subst e; exact hb
          · exact hno j (by omega)
        · refine zd_iconst E (pc := 23) (v := (nI 1)) d_S_cameTo_23 (by decide) ?_
          exact zd_zret E (pc := 24) d_S_cameTo_24 (by decide) ⟨true, ⟨fun _ => ⟨i, by omega, hb⟩, fun _ => rfl⟩, rfl, rfl⟩
  refine zd_iconst E (pc := 0) (v := (nI 0)) d_S_cameTo_0 (by decide) ?_
  refine zd_istore_n E (pc := 1) d_S_cameTo_1 (by decide) ?_
  exact loop n 0 (by omega) (fun j hj => by omega)
set_option maxRecDepth 100000 in
set_option maxHeartbeats 4000000 in
theorem c_S_leastToMet (l : Launch) (D : va_G) {n : Nat} {o d : Nat → Nat} (t : tk_C v r nf na fi go co ne ad dr) (h : sr_st v r n o d) : zd_Ct l D classes (wd_ty k) gd_T y_S_leastToMet b_S_leastToMet 2 (some .int) (zd_rm 2) [.ref (q 7)] (wd k q v r ex)
    (fun v1 w1 => ((∃ i, i < n ∧ tk_met go (o i) = true ∧ (∀ j, j < i → tk_met go (o j) = false) ∧ v1 = some (.int (nI (d i)))) ∨ ((∀ i, i < n → tk_met go (o i) = false) ∧ v1 = some (.int (-1)))) ∧ w1 = wd k q v r ex) := by
  refine zd_met gd_all (by decide) rfl (Nat.le_of_ble_eq_true rfl) (fun Z E => ?_)
  show Z (wd k q v r ex) [some (.ref (q 7)), none] 0 []
  have hn := sr_le h
  obtain ⟨h1, h2, h3, h4, h5, h6⟩ := h
  have loop : ∀ m i, i + m = n → (∀ j, j < i → tk_met go (o j) = false) → Z (wd k q v r ex) [some (.ref (q 7)), some (.int (nI i))] 2 [] := by
    intro m
    induction m with
    | zero =>
      intro i hi hno
      have e : i = n := by omega
      subst e
      refine zd_iload_n E (pc := 2) d_S_leastToMet_2 rfl ?_
      refine zd_aload_n E (pc := 3) d_S_leastToMet_3 rfl ?_
      refine zd_get E (pc := 4) d_S_leastToMet_4 kf_S_45 7 rfl rfl ?_
      rw [h1]
      refine zd_nc_ge E (pc := 7) 44 d_S_leastToMet_7 (by decide) ((by omega)) ((by omega)) (fun hc => ?_) (fun hc => ?_)
      · refine zd_iconst E (pc := 44) (v := (-1)) d_S_leastToMet_44 (by decide) ?_
        exact zd_iret E (pc := 45) d_S_leastToMet_45 ⟨Or.inr ⟨hno, rfl⟩, rfl⟩
      · omega
    | succ m ih =>
      intro i hi hno
      refine zd_iload_n E (pc := 2) d_S_leastToMet_2 rfl ?_
      refine zd_aload_n E (pc := 3) d_S_leastToMet_3 rfl ?_
      refine zd_get E (pc := 4) d_S_leastToMet_4 kf_S_45 7 rfl rfl ?_
      rw [h1]
      refine zd_nc_ge E (pc := 7) 44 d_S_leastToMet_7 (by decide) ((by omega)) ((by omega)) (fun hc => ?_) (fun hc => ?_)
      · omega
      · refine zd_aload_n E (pc := 10) d_S_leastToMet_10 rfl ?_
        refine zd_get E (pc := 11) d_S_leastToMet_11 kf_S_24 7 rfl rfl ?_
        refine zd_aload_n E (pc := 14) d_S_leastToMet_14 rfl ?_
        refine zd_get E (pc := 15) d_S_leastToMet_15 kf_S_9 7 rfl rfl ?_
        refine zd_iload_n E (pc := 18) d_S_leastToMet_18 rfl ?_
        refine zd_iald E (pc := 19) d_S_leastToMet_19 8 rfl (t0 := 0) rfl (i) (rfl) ((by omega)) (by decide) ?_
        rw [h4 i (by omega)]
        refine zd_callV E (pc := 20) d_S_leastToMet_20 kc_S_65 rfl ki_T_isMet ke_T_isMet 1 rfl rfl (c_T_isMet l D t.hgo.1 t.hgo.2) (by decide) rfl (Nat.le_of_ble_eq_true rfl) (fun v1 ws1 hv1 => ?_)
        obtain ⟨rfl, rfl⟩ := hv1
        refine zd_bf_eq E (pc := 23) 38 d_S_leastToMet_23 (by decide) (fun hb => ?_) (fun hb => ?_)
        · refine zd_iinc E (pc := 38) d_S_leastToMet_38 rfl (bm_inc i) (by decide) ?_
          refine zd_goto E (pc := 41) 2 d_S_leastToMet_41 (by decide) ?_
          refine ih (i + 1) (by omega) (fun j hj => ?_)
          by_cases e : j = i
          · subst e; simpa [tk_met] using hb
          · exact hno j (by omega)
        · refine zd_aload_n E (pc := 26) d_S_leastToMet_26 rfl ?_
          refine zd_get E (pc := 27) d_S_leastToMet_27 kf_S_15 7 rfl rfl ?_
          refine zd_aload_n E (pc := 30) d_S_leastToMet_30 rfl ?_
          refine zd_get E (pc := 31) d_S_leastToMet_31 kf_S_9 7 rfl rfl ?_
          refine zd_iload_n E (pc := 34) d_S_leastToMet_34 rfl ?_
          refine zd_iald E (pc := 35) d_S_leastToMet_35 8 rfl (t0 := 0) rfl (i) (rfl) ((by omega)) (by decide) ?_
          rw [h4 i (by omega)]
          refine zd_iald E (pc := 36) d_S_leastToMet_36 9 rfl (t0 := 0) rfl (o i) (rfl) (h2 i (by omega)) (by decide) ?_
          rw [(h5 i (by omega)).1]
          exact zd_iret E (pc := 37) d_S_leastToMet_37 ⟨Or.inl ⟨i, by omega, by simpa [tk_met] using hb, hno, rfl⟩, rfl⟩
  refine zd_iconst E (pc := 0) (v := (nI 0)) d_S_leastToMet_0 (by decide) ?_
  refine zd_istore_n E (pc := 1) d_S_leastToMet_1 (by decide) ?_
  exact loop n 0 (by omega) (fun j hj => by omega)
set_option maxRecDepth 100000 in
set_option maxHeartbeats 4000000 in
theorem c_S_leastOnward (l : Launch) (D : va_G) {n i s0 : Nat} {o d : Nat → Nat} (t : tk_C v r nf na fi go co ne ad dr) (h : sr_st v r n o d) (hok : gw_ok 1024 na (tk_can ne) (tk_af ad dr) co s0 n o d) (hi : i < n) : zd_Ct l D classes (wd_ty k) gd_T y_S_leastOnward b_S_leastOnward 4 (some .int) (zd_rm 2) [.ref (q 7), .int (nI (o i))] (wd k q v r ex)
    (fun v1 w1 => ((∃ a, a < na ∧ gw_on1 n (tk_can ne) (tk_af ad dr) co o d (sr_on r) i a ∧ (∀ b, b < a → ¬ gw_on1 n (tk_can ne) (tk_af ad dr) co o d (sr_on r) i b) ∧ v1 = some (.int (nI a))) ∨ ((∀ a, a < na → ¬ gw_on1 n (tk_can ne) (tk_af ad dr) co o d (sr_on r) i a) ∧ v1 = some (.int (-1)))) ∧ w1 = wd k q v r ex) := by
  refine zd_met gd_all (by decide) rfl (Nat.le_of_ble_eq_true rfl) (fun Z E => ?_)
  show Z (wd k q v r ex) [some (.ref (q 7)), some (.int (nI (o i))), none, none] 0 []
  have hn := sr_le h
  have hna := t.hna.2
  obtain ⟨h1, h2, h3, h4, h5, h6⟩ := h
  obtain ⟨d1, d2⟩ := h5 i hi
  have oN := h2 i hi
  have loop : ∀ m a L3, a + m = na → (∀ b, b < a → ¬ gw_on1 n (tk_can ne) (tk_af ad dr) co o d (sr_on r) i b) → Z (wd k q v r ex) [some (.ref (q 7)), some (.int (nI (o i))), some (.int (nI a)), L3] 2 [] := by
    intro m
    induction m with
    | zero =>
      intro a L3 ha hno
      have e : a = na := by omega
      subst e
      refine zd_iload_n E (pc := 2) d_S_leastOnward_2 rfl ?_
      refine zd_aload_n E (pc := 3) d_S_leastOnward_3 rfl ?_
      refine zd_get E (pc := 4) d_S_leastOnward_4 kf_S_24 7 rfl rfl ?_
      refine zd_get E (pc := 7) d_S_leastOnward_7 kf_S_49 1 rfl rfl ?_
      rw [t.hna.1]
      refine zd_nc_ge E (pc := 10) 78 d_S_leastOnward_10 (by decide) ((by omega)) ((by omega)) (fun hc => ?_) (fun hc => ?_)
      · refine zd_iconst E (pc := 78) (v := (-1)) d_S_leastOnward_78 (by decide) ?_
        exact zd_iret E (pc := 79) d_S_leastOnward_79 ⟨Or.inr ⟨hno, rfl⟩, rfl⟩
      · omega
    | succ m ih =>
      intro a L3 ha hno
      have ha12 : a < 12 := by omega
      have han : a < na := by omega
      obtain ⟨c1, c2⟩ := t.hco a ha12
      have tail : ∀ L3, ¬ gw_on1 n (tk_can ne) (tk_af ad dr) co o d (sr_on r) i a → Z (wd k q v r ex) [some (.ref (q 7)), some (.int (nI (o i))), some (.int (nI a)), L3] 72 [] := by
        intro L3 hz
        refine zd_iinc E (pc := 72) d_S_leastOnward_72 rfl (bm_inc a) (by decide) ?_
        refine zd_goto E (pc := 75) 2 d_S_leastOnward_75 (by decide) ?_
        refine ih (a + 1) L3 (by omega) (fun b hb => ?_)
        by_cases e : b = a
        · subst e; exact hz
        · exact hno b (by omega)
      refine zd_iload_n E (pc := 2) d_S_leastOnward_2 rfl ?_
      refine zd_aload_n E (pc := 3) d_S_leastOnward_3 rfl ?_
      refine zd_get E (pc := 4) d_S_leastOnward_4 kf_S_24 7 rfl rfl ?_
      refine zd_get E (pc := 7) d_S_leastOnward_7 kf_S_49 1 rfl rfl ?_
      rw [t.hna.1]
      refine zd_nc_ge E (pc := 10) 78 d_S_leastOnward_10 (by decide) ((by omega)) ((by omega)) (fun hc => ?_) (fun hc => ?_)
      · omega
      · refine zd_aload_n E (pc := 13) d_S_leastOnward_13 rfl ?_
        refine zd_get E (pc := 14) d_S_leastOnward_14 kf_S_24 7 rfl rfl ?_
        refine zd_iload_n E (pc := 17) d_S_leastOnward_17 rfl ?_
        refine zd_iload_n E (pc := 18) d_S_leastOnward_18 rfl ?_
        refine zd_callV E (pc := 19) d_S_leastOnward_19 kc_S_83 rfl ki_T_allows ke_T_allows 1 rfl rfl (c_T_allows l D ha12 t.hne) (by decide) rfl (Nat.le_of_ble_eq_true rfl) (fun v1 ws1 hv1 => ?_)
        obtain ⟨rfl, rfl⟩ := hv1
        refine zd_bf_eq E (pc := 22) 72 d_S_leastOnward_22 (by decide) (fun hcan => ?_) (fun hcan => ?_)
        · exact tail _ (fun z => hcan (by simpa [tk_can] using z.1))
        · have hcan1 : tk_can ne a (o i) = true := by simpa [tk_can] using hcan
          obtain ⟨j, hj, he, -⟩ := hok.2.2.2.2.2.2.2 i a hi han hcan1
          obtain ⟨g1, g2⟩ := h5 j hj
          have he1 : bm_dif (o i) (dr a) ||| ad a = o j := he.symm
          refine zd_aload_n E (pc := 25) d_S_leastOnward_25 rfl ?_
          refine zd_get E (pc := 26) d_S_leastOnward_26 kf_S_24 7 rfl rfl ?_
          refine zd_iload_n E (pc := 29) d_S_leastOnward_29 rfl ?_
          refine zd_iload_n E (pc := 30) d_S_leastOnward_30 rfl ?_
          refine zd_callV E (pc := 31) d_S_leastOnward_31 kc_S_79 rfl ki_T_after ke_T_after 1 rfl rfl (c_T_after l D ha12 t.had0 t.hdr0) (by decide) rfl (Nat.le_of_ble_eq_true rfl) (fun v1 ws1 hv1 => ?_)
          obtain ⟨rfl, rfl⟩ := hv1
          rw [he1]
          refine zd_istore_n E (pc := 34) d_S_leastOnward_34 (by decide) ?_
          refine zd_aload_n E (pc := 35) d_S_leastOnward_35 rfl ?_
          refine zd_get E (pc := 36) d_S_leastOnward_36 kf_S_15 7 rfl rfl ?_
          refine zd_iload_n E (pc := 39) d_S_leastOnward_39 rfl ?_
          refine zd_iald E (pc := 40) d_S_leastOnward_40 9 rfl (t0 := 0) rfl (o j) (rfl) (h2 j hj) (by decide) ?_
          rw [g1]
          refine zd_aload_n E (pc := 41) d_S_leastOnward_41 rfl ?_
          refine zd_get E (pc := 42) d_S_leastOnward_42 kf_S_15 7 rfl rfl ?_
          refine zd_iload_n E (pc := 45) d_S_leastOnward_45 rfl ?_
          refine zd_iald E (pc := 46) d_S_leastOnward_46 9 rfl (t0 := 0) rfl (o i) (rfl) (oN) (by decide) ?_
          rw [d1]
          refine zd_aload_n E (pc := 47) d_S_leastOnward_47 rfl ?_
          refine zd_get E (pc := 48) d_S_leastOnward_48 kf_S_24 7 rfl rfl ?_
          refine zd_get E (pc := 51) d_S_leastOnward_51 kf_S_54 1 rfl rfl ?_
          refine zd_iload_n E (pc := 54) d_S_leastOnward_54 rfl ?_
          refine zd_iald E (pc := 55) d_S_leastOnward_55 2 rfl (t0 := 0) rfl (a) (rfl) (ha12) (by decide) ?_
          rw [c1]
          refine zd_iadd E (pc := 56) d_S_leastOnward_56 ?_
          rw [nI_add]
          refine zd_nc_ne E (pc := 57) 72 d_S_leastOnward_57 (by decide) ((by omega)) ((by omega)) (fun hd => ?_) (fun hd => ?_)
          · refine tail _ (fun z => ?_)
            obtain ⟨-, j2, a1, a2, a3, a4⟩ := z
            have e := hok.2.2.2.2.1 j2 j a1 hj (a2.trans he.symm)
            subst e
            exact hd a3
          · refine zd_aload_n E (pc := 60) d_S_leastOnward_60 rfl ?_
            refine zd_get E (pc := 61) d_S_leastOnward_61 kf_S_18 7 rfl rfl ?_
            refine zd_iload_n E (pc := 64) d_S_leastOnward_64 rfl ?_
            refine zd_iald E (pc := 65) d_S_leastOnward_65 10 rfl (t0 := 0) rfl (o j) (rfl) (h2 j hj) (by decide) ?_
            refine zd_iconst E (pc := 66) (v := (-1)) d_S_leastOnward_66 (by decide) ?_
            refine zd_ic_eq E (pc := 67) 72 d_S_leastOnward_67 (by decide) (fun hon => ?_) (fun hon => ?_)
            · refine tail _ (fun z => ?_)
              obtain ⟨-, j2, a1, a2, a3, a4⟩ := z
              have e := hok.2.2.2.2.1 j2 j a1 hj (a2.trans he.symm)
              subst e
              exact sr_on_ne.mp a4 hon
            · refine zd_iload_n E (pc := 70) d_S_leastOnward_70 rfl ?_
              exact zd_iret E (pc := 71) d_S_leastOnward_71 ⟨Or.inl ⟨a, han, ⟨hcan1, j, hj, he, hd, sr_on_ne.mpr hon⟩, hno, rfl⟩, rfl⟩
  refine zd_iconst E (pc := 0) (v := (nI 0)) d_S_leastOnward_0 (by decide) ?_
  refine zd_istore_n E (pc := 1) d_S_leastOnward_1 (by decide) ?_
  exact loop na 0 none (by omega) (fun b hb => by omega)
set_option maxRecDepth 100000 in
set_option maxHeartbeats 4000000 in
theorem c_R_empty12 (l : Launch) (D : va_G) : zd_Ct l D classes (wd_ty k) gd_T y_R_empty b_R_empty 1 none (zd_rm 0) [.ref (q 12)] (wd k q v r ex) (zd_is none (wd k q (upd v (12 / 2 - 1) (nI 0)) r ex)) := by
  refine zd_met gd_all (by decide) rfl (Nat.le_of_ble_eq_true rfl) (fun Z E => ?_)
  show Z (wd k q v r ex) [some (.ref (q 12))] 0 []
  refine zd_aload_n E (pc := 0) d_R_empty_0 rfl ?_
  refine zd_iconst E (pc := 1) (v := (nI 0)) d_R_empty_1 (by decide) ?_
  refine zd_put E (pc := 2) d_R_empty_2 kp_R_13 12 rfl (Nat.le_of_ble_eq_true rfl) (ws1 := wd k q (upd v (12 / 2 - 1) (nI 0)) r ex) rfl ?_
  exact zd_vret E (pc := 5) d_R_empty_5 ⟨rfl, rfl⟩
set_option maxRecDepth 100000 in
set_option maxHeartbeats 4000000 in
theorem c_R_append12 (l : Launch) (D : va_G) {n a : Nat} (hv : v (12 / 2 - 1) = nI n) (hn : n < (if 12 = 12 then 1023 else 24)) : zd_Ct l D classes (wd_ty k) gd_T y_R_append b_R_append 2 none (zd_rm 0) [.ref (q 12), .int (nI a)] (wd k q v r ex) (zd_is none (wd k q (upd v (12 / 2 - 1) (nI (n + 1))) (va_up r (12 + 1) (upd (r (12 + 1)) n (nI a))) ex)) := by
  refine zd_met gd_all (by decide) rfl (Nat.le_of_ble_eq_true rfl) (fun Z E => ?_)
  show Z (wd k q v r ex) [some (.ref (q 12)), some (.int (nI a))] 0 []
  have hv1 : v (12 / 2 - 1) = nI n := hv
  have hn1 : n < 1024 := by
    have : (if 12 = 12 then 1023 else 24) ≤ 1023 := by decide
    omega
  refine zd_aload_n E (pc := 0) d_R_append_0 rfl ?_
  refine zd_get E (pc := 1) d_R_append_1 kf_R_13 12 rfl rfl ?_
  refine zd_aload_n E (pc := 4) d_R_append_4 rfl ?_
  refine zd_get E (pc := 5) d_R_append_5 kf_R_7 12 rfl rfl ?_
  refine zd_alen E (pc := 8) d_R_append_8 13 rfl (t0 := 0) rfl (v := nI (if 12 = 12 then 1023 else 24)) rfl ?_
  show Z (wd k q v r ex) [some (.ref (q 12)), some (.int (nI a))] 9 [.int (nI (if 12 = 12 then 1023 else 24)), .int (v (12 / 2 - 1))]
  rw [hv1]
  refine zd_nc_ge E (pc := 9) 32 d_R_append_9 (by decide) ((by omega)) ((by decide)) (fun hc => ?_) (fun hc => ?_)
  · omega
  · refine zd_aload_n E (pc := 12) d_R_append_12 rfl ?_
    refine zd_get E (pc := 13) d_R_append_13 kf_R_7 12 rfl rfl ?_
    refine zd_aload_n E (pc := 16) d_R_append_16 rfl ?_
    refine zd_get E (pc := 17) d_R_append_17 kf_R_13 12 rfl rfl ?_
    show Z (wd k q v r ex) [some (.ref (q 12)), some (.int (nI a))] 20 [.int (v (12 / 2 - 1)), .ref (q (12 + 1))]
    rw [hv1]
    refine zd_iload_n E (pc := 20) d_R_append_20 rfl ?_
    refine zd_iast E (pc := 21) d_R_append_21 13 rfl (t0 := 0) rfl (n) (rfl) (hn) (by decide) (ws1 := wd k q v (va_up r (12 + 1) (upd (r (12 + 1)) n (nI a))) ex) rfl ?_
    refine zd_aload_n E (pc := 22) d_R_append_22 rfl ?_
    refine zd_dup E (pc := 23) d_R_append_23 rfl ?_
    refine zd_get E (pc := 24) d_R_append_24 kf_R_13 12 rfl rfl ?_
    show Z (wd k q v (va_up r (12 + 1) (upd (r (12 + 1)) n (nI a))) ex) [some (.ref (q 12)), some (.int (nI a))] 27 [.int (v (12 / 2 - 1)), .ref (q 12)]
    rw [hv1]
    refine zd_iconst E (pc := 27) (v := (nI 1)) d_R_append_27 (by decide) ?_
    refine zd_iadd E (pc := 28) d_R_append_28 ?_
    rw [nI_add]
    refine zd_put E (pc := 29) d_R_append_29 kp_R_13 12 rfl (Nat.le_of_ble_eq_true rfl) (ws1 := wd k q (upd v (12 / 2 - 1) (nI (n + 1))) (va_up r (12 + 1) (upd (r (12 + 1)) n (nI a))) ex) rfl ?_
    exact zd_vret E (pc := 32) d_R_append_32 ⟨rfl, rfl⟩
set_option maxRecDepth 100000 in
set_option maxHeartbeats 4000000 in
theorem c_R_empty14 (l : Launch) (D : va_G) : zd_Ct l D classes (wd_ty k) gd_T y_R_empty b_R_empty 1 none (zd_rm 0) [.ref (q 14)] (wd k q v r ex) (zd_is none (wd k q (upd v (14 / 2 - 1) (nI 0)) r ex)) := by
  refine zd_met gd_all (by decide) rfl (Nat.le_of_ble_eq_true rfl) (fun Z E => ?_)
  show Z (wd k q v r ex) [some (.ref (q 14))] 0 []
  refine zd_aload_n E (pc := 0) d_R_empty_0 rfl ?_
  refine zd_iconst E (pc := 1) (v := (nI 0)) d_R_empty_1 (by decide) ?_
  refine zd_put E (pc := 2) d_R_empty_2 kp_R_13 14 rfl (Nat.le_of_ble_eq_true rfl) (ws1 := wd k q (upd v (14 / 2 - 1) (nI 0)) r ex) rfl ?_
  exact zd_vret E (pc := 5) d_R_empty_5 ⟨rfl, rfl⟩
set_option maxRecDepth 100000 in
set_option maxHeartbeats 4000000 in
theorem c_R_append14 (l : Launch) (D : va_G) {n a : Nat} (hv : v (14 / 2 - 1) = nI n) (hn : n < (if 14 = 12 then 1023 else 24)) : zd_Ct l D classes (wd_ty k) gd_T y_R_append b_R_append 2 none (zd_rm 0) [.ref (q 14), .int (nI a)] (wd k q v r ex) (zd_is none (wd k q (upd v (14 / 2 - 1) (nI (n + 1))) (va_up r (14 + 1) (upd (r (14 + 1)) n (nI a))) ex)) := by
  refine zd_met gd_all (by decide) rfl (Nat.le_of_ble_eq_true rfl) (fun Z E => ?_)
  show Z (wd k q v r ex) [some (.ref (q 14)), some (.int (nI a))] 0 []
  have hv1 : v (14 / 2 - 1) = nI n := hv
  have hn1 : n < 1024 := by
    have : (if 14 = 12 then 1023 else 24) ≤ 1023 := by decide
    omega
  refine zd_aload_n E (pc := 0) d_R_append_0 rfl ?_
  refine zd_get E (pc := 1) d_R_append_1 kf_R_13 14 rfl rfl ?_
  refine zd_aload_n E (pc := 4) d_R_append_4 rfl ?_
  refine zd_get E (pc := 5) d_R_append_5 kf_R_7 14 rfl rfl ?_
  refine zd_alen E (pc := 8) d_R_append_8 15 rfl (t0 := 0) rfl (v := nI (if 14 = 12 then 1023 else 24)) rfl ?_
  show Z (wd k q v r ex) [some (.ref (q 14)), some (.int (nI a))] 9 [.int (nI (if 14 = 12 then 1023 else 24)), .int (v (14 / 2 - 1))]
  rw [hv1]
  refine zd_nc_ge E (pc := 9) 32 d_R_append_9 (by decide) ((by omega)) ((by decide)) (fun hc => ?_) (fun hc => ?_)
  · omega
  · refine zd_aload_n E (pc := 12) d_R_append_12 rfl ?_
    refine zd_get E (pc := 13) d_R_append_13 kf_R_7 14 rfl rfl ?_
    refine zd_aload_n E (pc := 16) d_R_append_16 rfl ?_
    refine zd_get E (pc := 17) d_R_append_17 kf_R_13 14 rfl rfl ?_
    show Z (wd k q v r ex) [some (.ref (q 14)), some (.int (nI a))] 20 [.int (v (14 / 2 - 1)), .ref (q (14 + 1))]
    rw [hv1]
    refine zd_iload_n E (pc := 20) d_R_append_20 rfl ?_
    refine zd_iast E (pc := 21) d_R_append_21 15 rfl (t0 := 0) rfl (n) (rfl) (hn) (by decide) (ws1 := wd k q v (va_up r (14 + 1) (upd (r (14 + 1)) n (nI a))) ex) rfl ?_
    refine zd_aload_n E (pc := 22) d_R_append_22 rfl ?_
    refine zd_dup E (pc := 23) d_R_append_23 rfl ?_
    refine zd_get E (pc := 24) d_R_append_24 kf_R_13 14 rfl rfl ?_
    show Z (wd k q v (va_up r (14 + 1) (upd (r (14 + 1)) n (nI a))) ex) [some (.ref (q 14)), some (.int (nI a))] 27 [.int (v (14 / 2 - 1)), .ref (q 14)]
    rw [hv1]
    refine zd_iconst E (pc := 27) (v := (nI 1)) d_R_append_27 (by decide) ?_
    refine zd_iadd E (pc := 28) d_R_append_28 ?_
    rw [nI_add]
    refine zd_put E (pc := 29) d_R_append_29 kp_R_13 14 rfl (Nat.le_of_ble_eq_true rfl) (ws1 := wd k q (upd v (14 / 2 - 1) (nI (n + 1))) (va_up r (14 + 1) (upd (r (14 + 1)) n (nI a))) ex) rfl ?_
    exact zd_vret E (pc := 32) d_R_append_32 ⟨rfl, rfl⟩
end BS
end
section
/-! writeBest: the best plan, written into the row of cell 12. -/
section WB
variable {k : Nat → ClassId} {q : Nat → Nat} {v : Nat → Int32} {r : Nat → Nat → Int32} {ex : va_W} {nf na fi go : Nat} {co ne ad dr : Nat → Nat}
theorem gw_on1_congr {n : Nat} {can : Nat → Nat → Bool} {af : Nat → Nat → Nat} {co o d : Nat → Nat} {on on2 : Nat → Int} {i a : Nat} (h : ∀ j, j < n → d j = d i + co a → on (o j) = on2 (o j)) : gw_on1 n can af co o d on i a ↔ gw_on1 n can af co o d on2 i a := by
  constructor
  · rintro ⟨h1, j, h2, h3, h4, h5⟩
    exact ⟨h1, j, h2, h3, h4, by rw [← h j h2 h4]; exact h5⟩
  · rintro ⟨h1, j, h2, h3, h4, h5⟩
    exact ⟨h1, j, h2, h3, h4, by rw [h j h2 h4]; exact h5⟩
theorem gw_onc_congr {n na : Nat} {can : Nat → Nat → Bool} {af : Nat → Nat → Nat} {co o d : Nat → Nat} {met : Nat → Bool} {least : Nat} {on on2 : Nat → Int} {i : Nat} (hco : ∀ a, a < na → 1 ≤ co a) (hd : ∀ i j, i ≤ j → j < n → d i ≤ d j) (hi : i < n) (h : ∀ j, i ≤ j → j < n → on (o j) = on2 (o j)) (hc : gw_onc n na can af co met least o d on i) : gw_onc n na can af co met least o d on2 i := by
  have e : ∀ a, a < na → (gw_on1 n can af co o d on i a ↔ gw_on1 n can af co o d on2 i a) := fun a ha => gw_on1_congr fun j hj hdj => h j (by
    by_cases z : i ≤ j
    · exact z
    · have := hd j i (by omega) hi
      have := hco a ha
      omega) hj
  have e0 := h i (Nat.le_refl _) hi
  rcases hc with ⟨h1, h2⟩ | ⟨h1, ⟨a, ha, h2, h3, h4⟩ | ⟨h2, h3⟩⟩
  · exact Or.inl ⟨h1, by rw [← e0]; exact h2⟩
  · exact Or.inr ⟨h1, Or.inl ⟨a, ha, (e a ha).mp h2, fun b hb z => h3 b hb ((e b (by omega)).mpr z), by rw [← e0]; exact h4⟩⟩
  · exact Or.inr ⟨h1, Or.inr ⟨fun a ha z => h2 a ha ((e a ha).mpr z), by rw [← e0]; exact h3⟩⟩
set_option maxRecDepth 100000 in
set_option maxHeartbeats 4000000 in
theorem c_S_writeBest (l : Launch) (D : va_G) {n s0 least : Nat} {o d : Nat → Nat} (t : tk_C v r nf na fi go co ne ad dr) (h : sr_st v r n o d) (hok : gw_ok 1024 na (tk_can ne) (tk_af ad dr) co s0 n o d) (hl : least < 20000) (hv5 : v 5 = nI 0) : zd_Ct l D classes (wd_ty k) gd_T y_S_writeBest b_S_writeBest 7 none (zd_rm 3) [.ref (q 7), .int (nI s0), .int (nI least), .ref (q 12)] (wd k q v r ex)
    (fun v1 w1 => ∃ (v2 : Nat → Int32) (r2 : Nat → Nat → Int32) (m : Nat) (p it : Nat → Nat), (∀ i, i ≠ 5 → v2 i = v i) ∧ (∀ i, i ≠ 10 → i ≠ 13 → r2 i = r i) ∧ gw_on n na (tk_can ne) (tk_af ad dr) co (tk_met go) least o d (sr_on r2) ∧ gw_way (tk_af ad dr) (sr_on r2) s0 m p it ∧ v2 5 = nI m ∧ (∀ j, j < m → r2 13 j = nI (it j)) ∧ v1 = none ∧ w1 = wd k q v2 r2 ex) := by
  refine zd_met gd_all (by decide) rfl (Nat.le_of_ble_eq_true rfl) (fun Z E => ?_)
  show Z (wd k q v r ex) [some (.ref (q 7)), some (.int (nI s0)), some (.int (nI least)), some (.ref (q 12)), none, none, none] 0 []
  have hn := sr_le h
  have hst := h
  have hna := t.hna.2
  have hco1 := t.2.2.2.2
  obtain ⟨h1, h2, h3, h4, h5, h6⟩ := h
  have hmono := hok.2.2.2.2.2.1
  have trk : ∀ r1 : Nat → Nat → Int32, (∀ i, i ≠ 10 → r1 i = r i) → tk_C v r1 nf na fi go co ne ad dr := fun r1 hf => t.fr (fun _ _ => rfl) (hf 2 (by decide)) (hf 4 (by decide)) (hf 5 (by decide)) (hf 6 (by decide))
  have srk : ∀ r1 : Nat → Nat → Int32, (∀ i, i ≠ 10 → r1 i = r i) → sr_st v r1 n o d := fun r1 hf => ⟨h1, h2, h3, fun i hi => by rw [hf 8 (by decide)]; exact h4 i hi, fun i hi => by rw [hf 9 (by decide)]; exact h5 i hi, fun s hs hne => by rw [hf 9 (by decide)]; exact h6 s hs hne⟩
  -- the walk along the ways on
  have walk : ∀ (c m : Nat) (v1 : Nat → Int32) (r1 : Nat → Nat → Int32) (p it : Nat → Nat) (L6 : Option Value), m + c = 1023 → (∀ i, i ≠ 5 → v1 i = v i) → (∀ i, i ≠ 10 → i ≠ 13 → r1 i = r i) → gw_on n na (tk_can ne) (tk_af ad dr) co (tk_met go) least o d (sr_on r1) → p 0 = s0 → (∀ j, j < m → sr_on r1 (p j) = (it j : Int) ∧ p (j + 1) = tk_af ad dr (it j) (p j)) → (∃ i, i < n ∧ o i = p m) → v1 5 = nI m → (∀ j, j < m → r1 13 j = nI (it j)) → Z (wd k q v1 r1 ex) [some (.ref (q 7)), some (.int (nI s0)), some (.int (nI least)), some (.ref (q 12)), some (.int (nI (p m))), some (.int (nI m)), L6] 87 [] := by
    intro c
    induction c with
    | zero =>
      intro m v1 r1 p it L6 hm hfv hfr hon hp0 hps hpi hm5 hit
      have e : m = 1023 := by omega
      refine zd_iload E (pc := 87) d_S_writeBest_87 rfl ?_
      refine zd_sipush E (pc := 89) (v := (nI 1023)) d_S_writeBest_89 (by decide) ?_
      refine zd_nc_ge E (pc := 92) 140 d_S_writeBest_92 (by decide) ((by omega)) ((by omega)) (fun hc => ?_) (fun hc => ?_)
      · exact zd_vret E (pc := 140) d_S_writeBest_140 ⟨v1, r1, m, p, it, hfv, hfr, hon, ⟨hp0, hps, Or.inl e, by omega⟩, hm5, hit, rfl, rfl⟩
      · omega
    | succ c ih =>
      intro m v1 r1 p it L6 hm hfv hfr hon hp0 hps hpi hm5 hit
      obtain ⟨i, hi, hpi⟩ := hpi
      have hpN : p m < 1024 := by rw [← hpi]; exact h2 i hi
      have t1 : tk_C v1 r1 nf na fi go co ne ad dr := t.fr (fun j hj => hfv j (by omega)) (hfr 2 (by decide) (by decide)) (hfr 4 (by decide) (by decide)) (hfr 5 (by decide) (by decide)) (hfr 6 (by decide) (by decide))
      refine zd_iload E (pc := 87) d_S_writeBest_87 rfl ?_
      refine zd_sipush E (pc := 89) (v := (nI 1023)) d_S_writeBest_89 (by decide) ?_
      refine zd_nc_ge E (pc := 92) 140 d_S_writeBest_92 (by decide) ((by omega)) ((by omega)) (fun hc => ?_) (fun hc => ?_)
      · omega
      · refine zd_aload_n E (pc := 95) d_S_writeBest_95 rfl ?_
        refine zd_get E (pc := 96) d_S_writeBest_96 kf_S_18 7 rfl rfl ?_
        refine zd_iload E (pc := 99) d_S_writeBest_99 rfl ?_
        refine zd_iald E (pc := 101) d_S_writeBest_101 10 rfl (t0 := 0) rfl (p m) (rfl) (hpN) (by decide) ?_
        rcases hon i hi with ⟨-, hz⟩ | ⟨-, ⟨a, ha, ⟨hcan, j, hj, hje, hjd, hj1⟩, -, hz⟩ | ⟨-, hz⟩⟩
        · rw [hpi] at hz
          have hz1 : r1 10 (p m) = -2 := Int32.toInt_inj.mp (hz.trans (by decide))
          rw [hz1]
          refine zd_if_lt E (pc := 102) 140 d_S_writeBest_102 (by decide) (fun hneg => ?_) (fun hneg => ?_)
          · exact zd_vret E (pc := 140) d_S_writeBest_140 ⟨v1, r1, m, p, it, hfv, hfr, hon, ⟨hp0, hps, Or.inr (by rw [hz]; decide), by omega⟩, hm5, hit, rfl, rfl⟩
          · exact absurd (by decide) hneg
        · rw [hpi] at hz hcan hje
          have ha12 : a < 12 := by omega
          have hz1 : r1 10 (p m) = nI a := Int32.toInt_inj.mp (hz.trans (nI_toInt (by omega)).symm)
          rw [hz1]
          refine zd_if_lt E (pc := 102) 140 d_S_writeBest_102 (by decide) (fun hneg => ?_) (fun hneg => ?_)
          · exact absurd hneg (nI_pos (by omega))
          · refine zd_aload_n E (pc := 105) d_S_writeBest_105 rfl ?_
            refine zd_aload_n E (pc := 106) d_S_writeBest_106 rfl ?_
            refine zd_get E (pc := 107) d_S_writeBest_107 kf_S_18 7 rfl rfl ?_
            refine zd_iload E (pc := 110) d_S_writeBest_110 rfl ?_
            refine zd_iald E (pc := 112) d_S_writeBest_112 10 rfl (t0 := 0) rfl (p m) (rfl) (hpN) (by decide) ?_
            rw [hz1]
            refine zd_callV E (pc := 113) d_S_writeBest_113 kc_S_73 rfl ki_R_append ke_R_append 12 rfl rfl (c_R_append12 l D hm5 (show m < 1023 by omega)) (by decide) rfl (Nat.le_of_ble_eq_true rfl) (fun v1 ws1 hv1 => ?_)
            obtain ⟨rfl, rfl⟩ := hv1
            refine zd_aload_n E (pc := 116) d_S_writeBest_116 rfl ?_
            refine zd_get E (pc := 117) d_S_writeBest_117 kf_S_24 7 rfl rfl ?_
            refine zd_aload_n E (pc := 120) d_S_writeBest_120 rfl ?_
            refine zd_get E (pc := 121) d_S_writeBest_121 kf_S_18 7 rfl rfl ?_
            refine zd_iload E (pc := 124) d_S_writeBest_124 rfl ?_
            refine zd_iald E (pc := 126) d_S_writeBest_126 10 rfl (t0 := 0) rfl (p m) (rfl) (hpN) (by decide) ?_
            show Z (wd k q (upd v1 5 (nI (m + 1))) (va_up r1 13 (upd (r1 13) m (nI a))) ex) _ 127 [.int (r1 10 (p m)), .ref (q 1)]
            rw [hz1]
            refine zd_iload E (pc := 127) d_S_writeBest_127 rfl ?_
            have t2 : tk_C (upd v1 5 (nI (m + 1))) (va_up r1 13 (upd (r1 13) m (nI a))) nf na fi go co ne ad dr := t1.fr (fun j hj => pk_un (by omega)) rfl rfl rfl rfl
            refine zd_callV E (pc := 129) d_S_writeBest_129 kc_S_79 rfl ki_T_after ke_T_after 1 rfl rfl (c_T_after l D ha12 t2.had0 t2.hdr0) (by decide) rfl (Nat.le_of_ble_eq_true rfl) (fun v1 ws1 hv1 => ?_)
            obtain ⟨rfl, rfl⟩ := hv1
            refine zd_istore E (pc := 132) d_S_writeBest_132 (by decide) ?_
            refine zd_iinc E (pc := 134) d_S_writeBest_134 rfl (bm_inc m) (by decide) ?_
            refine zd_goto E (pc := 137) 87 d_S_writeBest_137 (by decide) ?_
            have hsr : sr_on (va_up r1 13 (upd (r1 13) m (nI a))) = sr_on r1 := rfl
            have pm1 : va_up p (m + 1) (tk_af ad dr a (p m)) (m + 1) = tk_af ad dr a (p m) := va_up_self _ _ _
            have key := ih (m + 1) (upd v1 5 (nI (m + 1))) (va_up r1 13 (upd (r1 13) m (nI a))) (va_up p (m + 1) (tk_af ad dr a (p m))) (va_up it m a) L6 (by omega) (fun j hj => by rw [pk_un hj]; exact hfv j hj) (fun j a1 a2 => by rw [va_up_ne _ _ a2]; exact hfr j a1 a2) hon (by rw [va_up_ne _ _ (by omega)]; exact hp0)
              (fun j hj => by
                rw [hsr]
                by_cases e : j = m
                · subst e
                  rw [va_up_ne _ _ (by omega), va_up_self, va_up_self]
                  exact ⟨hz, rfl⟩
                · rw [va_up_ne _ _ (by omega), va_up_ne _ _ (by omega), va_up_ne _ _ (by omega)]
                  exact hps j (by omega))
              ⟨j, hj, by rw [pm1]; exact hje⟩ pk_us
              (fun j hj => by
                rw [va_up_self]
                by_cases e : j = m
                · subst e; rw [pk_us, va_up_self]
                · rw [pk_un e, va_up_ne _ _ e]; exact hit j (by omega))
            rw [pm1] at key
            exact key
        · rw [hpi] at hz
          have hz1 : r1 10 (p m) = -1 := Int32.toInt_inj.mp (hz.trans (by decide))
          rw [hz1]
          refine zd_if_lt E (pc := 102) 140 d_S_writeBest_102 (by decide) (fun hneg => ?_) (fun hneg => ?_)
          · exact zd_vret E (pc := 140) d_S_writeBest_140 ⟨v1, r1, m, p, it, hfv, hfr, hon, ⟨hp0, hps, Or.inr (by rw [hz]; decide), by omega⟩, hm5, hit, rfl, rfl⟩
          · exact absurd (by decide) hneg
  have begin2 : ∀ (r1 : Nat → Nat → Int32) (L4 L5 L6 : Option Value), (∀ i, i ≠ 10 → r1 i = r i) → gw_on n na (tk_can ne) (tk_af ad dr) co (tk_met go) least o d (sr_on r1) → Z (wd k q v r1 ex) [some (.ref (q 7)), some (.int (nI s0)), some (.int (nI least)), some (.ref (q 12)), L4, L5, L6] 81 [] := by
    intro r1 L4 L5 L6 hf hon
    refine zd_iload_n E (pc := 81) d_S_writeBest_81 rfl ?_
    refine zd_istore E (pc := 82) d_S_writeBest_82 (by decide) ?_
    refine zd_iconst E (pc := 84) (v := (nI 0)) d_S_writeBest_84 (by decide) ?_
    refine zd_istore E (pc := 85) d_S_writeBest_85 (by decide) ?_
    exact walk 1023 0 v r1 (fun _ => s0) (fun _ => 0) L6 rfl (fun _ _ => rfl) (fun i a b => hf i a) hon rfl (fun j hj => by omega) ⟨0, hok.1, hok.2.1⟩ hv5 (fun j hj => by omega)
  -- one state, from behind
  have body : ∀ (i : Nat) (r1 : Nat → Nat → Int32) (L5 L6 : Option Value), i < n → (∀ j, j ≠ 10 → r1 j = r j) → (∀ j, i < j → j < n → gw_onc n na (tk_can ne) (tk_af ad dr) co (tk_met go) least o d (sr_on r1) j) →
      (∀ (r1 : Nat → Nat → Int32) (L5 L6 : Option Value), (∀ j, j ≠ 10 → r1 j = r j) → (∀ j, i ≤ j → j < n → gw_onc n na (tk_can ne) (tk_af ad dr) co (tk_met go) least o d (sr_on r1) j) → Z (wd k q v r1 ex) [some (.ref (q 7)), some (.int (nI s0)), some (.int (nI least)), some (.ref (q 12)), some (.int (nI i)), L5, L6] 75 []) →
      Z (wd k q v r1 ex) [some (.ref (q 7)), some (.int (nI s0)), some (.int (nI least)), some (.ref (q 12)), some (.int (nI i)), L5, L6] 8 [] := by
    intro i r1 L5 L6 hi hf hall kk
    have t1 := trk r1 hf
    have st1 := srk r1 hf
    have oN := h2 i hi
    obtain ⟨d1, d2⟩ := st1.2.2.2.2.1 i hi
    -- the store, and what holds behind it
    have store : ∀ (x : Int32) (L6 : Option Value), (((d i = least ∧ tk_met go (o i) = true) ∧ x = -2) ∨ (¬ (d i = least ∧ tk_met go (o i) = true) ∧ ((∃ a, a < na ∧ gw_on1 n (tk_can ne) (tk_af ad dr) co o d (sr_on r1) i a ∧ (∀ b, b < a → ¬ gw_on1 n (tk_can ne) (tk_af ad dr) co o d (sr_on r1) i b) ∧ x = nI a) ∨ ((∀ a, a < na → ¬ gw_on1 n (tk_can ne) (tk_af ad dr) co o d (sr_on r1) i a) ∧ x = -1)))) →
        Z (wd k q v r1 ex) [some (.ref (q 7)), some (.int (nI s0)), some (.int (nI least)), some (.ref (q 12)), some (.int (nI i)), some (.int (nI (o i))), L6] 74 [.int x, .int (nI (o i)), .ref (q 10)] := by
      intro x L6 hx
      refine zd_iast E (pc := 74) d_S_writeBest_74 10 rfl (t0 := 0) rfl (o i) (rfl) (oN) (by decide) (ws1 := wd k q v (va_up r1 10 (upd (r1 10) (o i) x)) ex) rfl ?_
      have same : ∀ j, i < j → j < n → sr_on r1 (o j) = sr_on (va_up r1 10 (upd (r1 10) (o i) x)) (o j) := fun j a b => by
        show _ = (upd (r1 10) (o i) x (o j)).toInt
        rw [pk_un (fun z => by have := h3 j i b hi z; omega)]
        rfl
      have here : sr_on (va_up r1 10 (upd (r1 10) (o i) x)) (o i) = x.toInt := by
        show (upd (r1 10) (o i) x (o i)).toInt = _
        rw [pk_us]
      refine kk _ _ _ (fun j hj => by rw [va_up_ne _ _ hj]; exact hf j hj) (fun j a b => ?_)
      by_cases e : j = i
      · subst e
        have e1 : ∀ a, a < na → (gw_on1 n (tk_can ne) (tk_af ad dr) co o d (sr_on r1) j a ↔ gw_on1 n (tk_can ne) (tk_af ad dr) co o d (sr_on (va_up r1 10 (upd (r1 10) (o j) x))) j a) := fun a ha => gw_on1_congr fun j2 hj2 hd => same j2 (by
          by_cases z : j < j2
          · exact z
          · have := hmono j2 j (by omega) b
            have := hco1 a ha
            omega) hj2
        rcases hx with ⟨x1, x2⟩ | ⟨x1, ⟨a, ha, x2, x3, x4⟩ | ⟨x2, x3⟩⟩
        · exact Or.inl ⟨x1, by rw [here, x2]; decide⟩
        · exact Or.inr ⟨x1, Or.inl ⟨a, ha, (e1 a ha).mp x2, fun b hb z => x3 b hb ((e1 b (by omega)).mpr z), by rw [here, x4]; exact nI_toInt (by omega)⟩⟩
        · exact Or.inr ⟨x1, Or.inr ⟨fun a ha z => x2 a ha ((e1 a ha).mpr z), by rw [here, x3]; decide⟩⟩
      · exact gw_onc_congr hco1 hmono b (fun j2 a2 b2 => same j2 (by omega) b2) (hall j (by omega) b)
    have other : ∀ (L6 : Option Value), ¬ (d i = least ∧ tk_met go (o i) = true) → Z (wd k q v r1 ex) [some (.ref (q 7)), some (.int (nI s0)), some (.int (nI least)), some (.ref (q 12)), some (.int (nI i)), some (.int (nI (o i))), L6] 49 [] := by
      intro L6 hno
      refine zd_iconst E (pc := 49) (v := (nI 0)) d_S_writeBest_49 (by decide) ?_
      refine zd_istore E (pc := 50) d_S_writeBest_50 (by decide) ?_
      refine zd_aload_n E (pc := 52) d_S_writeBest_52 rfl ?_
      refine zd_get E (pc := 53) d_S_writeBest_53 kf_S_18 7 rfl rfl ?_
      refine zd_iload E (pc := 56) d_S_writeBest_56 rfl ?_
      refine zd_iload E (pc := 58) d_S_writeBest_58 rfl ?_
      refine zd_if_eq E (pc := 60) 68 d_S_writeBest_60 (by decide) (fun hz => ?_) (fun hz => ?_)
      · refine zd_aload_n E (pc := 68) d_S_writeBest_68 rfl ?_
        refine zd_iload E (pc := 69) d_S_writeBest_69 rfl ?_
        refine zd_callV E (pc := 71) d_S_writeBest_71 kc_S_69 rfl ki_S_leastOnward ke_S_leastOnward 7 rfl rfl (c_S_leastOnward l D t1 st1 hok hi) (by decide) rfl (Nat.le_of_ble_eq_true rfl) (fun v1 ws1 hv1 => ?_)
        obtain ⟨hcase, rfl⟩ := hv1
        rcases hcase with ⟨a, a1, a2, a3, rfl⟩ | ⟨a1, rfl⟩
        · exact store _ _ (Or.inr ⟨hno, Or.inl ⟨a, a1, a2, a3, rfl⟩⟩)
        · exact store _ _ (Or.inr ⟨hno, Or.inr ⟨a1, rfl⟩⟩)
      · exact absurd rfl hz
    refine zd_iload E (pc := 8) d_S_writeBest_8 rfl ?_
    refine zd_if_lt E (pc := 10) 81 d_S_writeBest_10 (by decide) (fun hneg => ?_) (fun hneg => ?_)
    · exact absurd hneg (nI_pos (by omega))
    · refine zd_aload_n E (pc := 13) d_S_writeBest_13 rfl ?_
      refine zd_get E (pc := 14) d_S_writeBest_14 kf_S_9 7 rfl rfl ?_
      refine zd_iload E (pc := 17) d_S_writeBest_17 rfl ?_
      refine zd_iald E (pc := 19) d_S_writeBest_19 8 rfl (t0 := 0) rfl (i) (rfl) ((by omega)) (by decide) ?_
      rw [st1.2.2.2.1 i hi]
      refine zd_istore E (pc := 20) d_S_writeBest_20 (by decide) ?_
      refine zd_aload_n E (pc := 22) d_S_writeBest_22 rfl ?_
      refine zd_get E (pc := 23) d_S_writeBest_23 kf_S_15 7 rfl rfl ?_
      refine zd_iload E (pc := 26) d_S_writeBest_26 rfl ?_
      refine zd_iald E (pc := 28) d_S_writeBest_28 9 rfl (t0 := 0) rfl (o i) (rfl) (oN) (by decide) ?_
      rw [d1]
      refine zd_iload_n E (pc := 29) d_S_writeBest_29 rfl ?_
      refine zd_nc_ne E (pc := 30) 49 d_S_writeBest_30 (by decide) ((by omega)) ((by omega)) (fun hd => ?_) (fun hd => ?_)
      · exact other _ (fun z => hd z.1)
      · refine zd_aload_n E (pc := 33) d_S_writeBest_33 rfl ?_
        refine zd_get E (pc := 34) d_S_writeBest_34 kf_S_24 7 rfl rfl ?_
        refine zd_iload E (pc := 37) d_S_writeBest_37 rfl ?_
        refine zd_callV E (pc := 39) d_S_writeBest_39 kc_S_65 rfl ki_T_isMet ke_T_isMet 1 rfl rfl (c_T_isMet l D t1.hgo.1 t1.hgo.2) (by decide) rfl (Nat.le_of_ble_eq_true rfl) (fun v1 ws1 hv1 => ?_)
        obtain ⟨rfl, rfl⟩ := hv1
        refine zd_bf_eq E (pc := 42) 49 d_S_writeBest_42 (by decide) (fun hb => ?_) (fun hb => ?_)
        · exact other _ (fun z => hb (by simpa [tk_met] using z.2))
        · refine zd_iconst E (pc := 45) (v := (nI 1)) d_S_writeBest_45 (by decide) ?_
          refine zd_goto E (pc := 46) 50 d_S_writeBest_46 (by decide) ?_
          refine zd_istore E (pc := 50) d_S_writeBest_50 (by decide) ?_
          refine zd_aload_n E (pc := 52) d_S_writeBest_52 rfl ?_
          refine zd_get E (pc := 53) d_S_writeBest_53 kf_S_18 7 rfl rfl ?_
          refine zd_iload E (pc := 56) d_S_writeBest_56 rfl ?_
          refine zd_iload E (pc := 58) d_S_writeBest_58 rfl ?_
          refine zd_if_eq E (pc := 60) 68 d_S_writeBest_60 (by decide) (fun hz => ?_) (fun hz => ?_)
          · exact absurd hz (by decide)
          · refine zd_bipush E (pc := 63) (v := (-2)) d_S_writeBest_63 (by decide) ?_
            refine zd_goto E (pc := 65) 74 d_S_writeBest_65 (by decide) ?_
            exact store _ _ (Or.inl ⟨⟨hd, by simpa [tk_met] using hb⟩, rfl⟩)
  have loop : ∀ (i : Nat) (r1 : Nat → Nat → Int32) (L5 L6 : Option Value), i < n → (∀ j, j ≠ 10 → r1 j = r j) → (∀ j, i < j → j < n → gw_onc n na (tk_can ne) (tk_af ad dr) co (tk_met go) least o d (sr_on r1) j) → Z (wd k q v r1 ex) [some (.ref (q 7)), some (.int (nI s0)), some (.int (nI least)), some (.ref (q 12)), some (.int (nI i)), L5, L6] 8 [] := by
    intro i
    induction i with
    | zero =>
      intro r1 L5 L6 hi hf hall
      refine body 0 r1 L5 L6 hi hf hall (fun r2 L5 L6 hf2 hall2 => ?_)
      refine zd_iinc E (pc := 75) d_S_writeBest_75 rfl ((show nI 0 + Int32.ofInt (-1) = -1 by decide)) (by decide) ?_
      refine zd_goto E (pc := 78) 8 d_S_writeBest_78 (by decide) ?_
      refine zd_iload E (pc := 8) d_S_writeBest_8 rfl ?_
      refine zd_if_lt E (pc := 10) 81 d_S_writeBest_10 (by decide) (fun hneg => ?_) (fun hneg => ?_)
      · exact begin2 r2 _ _ _ hf2 (fun j hj => hall2 j (Nat.zero_le _) hj)
      · exact absurd (by decide) hneg
    | succ i ih =>
      intro r1 L5 L6 hi hf hall
      refine body (i + 1) r1 L5 L6 hi hf hall (fun r2 L5 L6 hf2 hall2 => ?_)
      refine zd_iinc E (pc := 75) d_S_writeBest_75 rfl ((show nI (i + 1) + Int32.ofInt (-1) = nI i from pk_m1 i)) (by decide) ?_
      refine zd_goto E (pc := 78) 8 d_S_writeBest_78 (by decide) ?_
      exact ih r2 L5 L6 (by omega) hf2 (fun j a b => hall2 j (by omega) b)
  have hn0 := hok.1
  refine zd_aload_n E (pc := 0) d_S_writeBest_0 rfl ?_
  refine zd_get E (pc := 1) d_S_writeBest_1 kf_S_45 7 rfl rfl ?_
  rw [h1]
  refine zd_iconst E (pc := 4) (v := (nI 1)) d_S_writeBest_4 (by decide) ?_
  refine zd_isub E (pc := 5) d_S_writeBest_5 ?_
  rw [pk_sub (by omega)]
  refine zd_istore E (pc := 6) d_S_writeBest_6 (by decide) ?_
  exact loop (n - 1) r none none (by omega) (fun _ _ => rfl) (fun j a b => by omega)
end WB
end
section
/-! Contracts of the cuts: isBasedIn, zoneBefore, restBehind, pay, goalHeight. -/
theorem cu_rd_lt {te : Nat → Nat → Bool} {pu : Nat → Nat} {X na n : Nat} (hX : X < 2 ^ n) (hp : ∀ a, a < na → (∃ Y, te a Y = true) → pu a < 2 ^ n) : ∀ k, k ≤ na → cu_rd te pu X k < 2 ^ n
  | 0, _ => hX
  | k + 1, hk => by
    have ih := cu_rd_lt hX hp k (by omega)
    unfold cu_rd
    split
    · next q => exact Nat.or_lt_two_pow ih (hp k (by omega) ⟨_, q⟩)
    · exact ih
/-- a set that cannot grow: all its places are taken -/
theorem cu_full {X Y m : Nat} (h : cu_le X Y) (hY : Y < 2 ^ m) (hn : m ≤ cu_n X m) : Y = X := by
  by_cases e : X = Y
  · exact e.symm
  · have h1 := cu_n_lt h hY e
    have h2 := lm_cnt_le (fun b => Y.testBit b) m
    unfold cu_n at h1 hn
    omega
theorem cu_n_pos {X m : Nat} (hX : X < 2 ^ m) (h0 : X ≠ 0) : 0 < cu_n X m := by
  have := cu_n_lt (X := 0) (Y := X) (m := m) (fun b hb => by rw [Nat.zero_testBit] at hb; cases hb) hX (fun e => h0 e.symm)
  omega
/-- the price of a cut: the least cost of its actions, 9 where there are none -/
def lm_min (c : Nat → Nat) (C : Nat) : Nat → Nat
  | 0 => 9
  | i + 1 => if C.testBit i = true then min (lm_min c C i) (c i) else lm_min c C i
theorem lm_min_le {c : Nat → Nat} {C : Nat} : ∀ {n : Nat} {a : Nat}, a < n → C.testBit a = true → lm_min c C n ≤ c a
  | 0, a, h, _ => by omega
  | n + 1, a, h, hb => by
    unfold lm_min
    by_cases e : a = n
    · subst e; rw [if_pos hb]; omega
    · have := lm_min_le (c := c) (n := n) (a := a) (by omega) hb
      split <;> omega
theorem lm_min_9 (c : Nat → Nat) (C : Nat) : ∀ n, lm_min c C n ≤ 9
  | 0 => Nat.le_refl _
  | n + 1 => by have := lm_min_9 c C n; unfold lm_min; split <;> omega
/-- the costs when a cut is paid -/
def lm_pay (c : Nat → Nat) (C p : Nat) : Nat → Nat := fun a => if C.testBit a = true then c a - p else c a
/-- the bases as the array holds them -/
def cu_ar (r : Nat → Nat → Int32) (na : Nat) (fi : Nat → Bool) (ba : Nat → Nat) : Prop := ∀ a, a < na → r 20 a = (if fi a = true then nI (ba a) else -1) ∧ (fi a = true → ba a ≤ 10)
section CT
variable {k : Nat → ClassId} {q : Nat → Nat} {v : Nat → Int32} {r : Nat → Nat → Int32} {ex : va_W} {nf na fi go : Nat} {co ne ad dr : Nat → Nat}
set_option maxRecDepth 100000 in
set_option maxHeartbeats 4000000 in
theorem c_U_isBasedIn (l : Launch) (D : va_G) {X a : Nat} {fb : Nat → Bool} {ba : Nat → Nat} (hX : X < 2 ^ 31) (ha : a < na) (hna : na ≤ 12) (hb : cu_ar r na fb ba) : zd_Ct l D classes (wd_ty k) gd_T y_U_isBasedIn b_U_isBasedIn 3 (some .boolean) (zd_rm 1) [.ref (q 18), .int (nI X), .int (nI a)] (wd k q v r ex) (zd_is (some (.int (nI (bm_b (fb a && X.testBit (ba a)))))) (wd k q v r ex)) := by
  refine zd_met gd_all (by decide) rfl (Nat.le_of_ble_eq_true rfl) (fun Z E => ?_)
  show Z (wd k q v r ex) [some (.ref (q 18)), some (.int (nI X)), some (.int (nI a))] 0 []
  obtain ⟨b1, b2⟩ := hb a ha
  refine zd_aload_n E (pc := 0) d_U_isBasedIn_0 rfl ?_
  refine zd_get E (pc := 1) d_U_isBasedIn_1 kf_U_15 18 rfl rfl ?_
  refine zd_iload_n E (pc := 4) d_U_isBasedIn_4 rfl ?_
  refine zd_iald E (pc := 5) d_U_isBasedIn_5 20 rfl (t0 := 0) rfl (a) (rfl) ((by omega)) (by decide) ?_
  rw [b1]
  refine zd_iconst E (pc := 6) (v := (-1)) d_U_isBasedIn_6 (by decide) ?_
  cases hf : fb a with
  | false =>
    rw [if_neg (by decide)]
    refine zd_ic_eq E (pc := 7) 27 d_U_isBasedIn_7 (by decide) (fun hc => ?_) (fun hc => ?_)
    · refine zd_iconst E (pc := 27) (v := (nI 0)) d_U_isBasedIn_27 (by decide) ?_
      exact zd_zret E (pc := 28) d_U_isBasedIn_28 (by decide) ⟨by rw [hf]; rfl, rfl⟩
    · exact absurd rfl hc
  | true =>
    have b3 := b2 hf
    rw [if_pos rfl]
    refine zd_ic_eq E (pc := 7) 27 d_U_isBasedIn_7 (by decide) (fun hc => ?_) (fun hc => ?_)
    · exact absurd hc (bm_m1ne (by omega))
    · refine zd_iload_n E (pc := 10) d_U_isBasedIn_10 rfl ?_
      refine zd_aload_n E (pc := 11) d_U_isBasedIn_11 rfl ?_
      refine zd_get E (pc := 12) d_U_isBasedIn_12 kf_U_15 18 rfl rfl ?_
      refine zd_iload_n E (pc := 15) d_U_isBasedIn_15 rfl ?_
      refine zd_iald E (pc := 16) d_U_isBasedIn_16 20 rfl (t0 := 0) rfl (a) (rfl) ((by omega)) (by decide) ?_
      rw [b1, hf, if_pos rfl]
      refine zd_callS E (pc := 17) d_U_isBasedIn_17 kc_U_92 rfl ks_P_has (c_P_has l D _ _ hX (show ba a < 32 by omega)) (by decide) rfl (Nat.le_of_ble_eq_true rfl) (fun v1 ws1 hv1 => ?_)
      obtain ⟨rfl, rfl⟩ := hv1
      refine zd_bf_eq E (pc := 20) 27 d_U_isBasedIn_20 (by decide) (fun hbit => ?_) (fun hbit => ?_)
      · refine zd_iconst E (pc := 27) (v := (nI 0)) d_U_isBasedIn_27 (by decide) ?_
        exact zd_zret E (pc := 28) d_U_isBasedIn_28 (by decide) ⟨by rw [hf, ts_f hbit]; rfl, rfl⟩
      · refine zd_iconst E (pc := 23) (v := (nI 1)) d_U_isBasedIn_23 (by decide) ?_
        refine zd_goto E (pc := 24) 28 d_U_isBasedIn_24 (by decide) ?_
        exact zd_zret E (pc := 28) d_U_isBasedIn_28 (by decide) ⟨by rw [hf, hbit]; rfl, rfl⟩
set_option maxRecDepth 100000 in
set_option maxHeartbeats 4000000 in
theorem c_U_zoneBefore (l : Launch) (D : va_G) {X0 : Nat} {fb : Nat → Bool} {c ba : Nat → Nat} (hX : X0 < 2 ^ 11) (h00 : X0 ≠ 0) (hv1 : v 1 = nI na) (hna : na ≤ 12) (hc : ∀ i, i < 12 → r 19 i = nI (c i) ∧ c i ≤ 9) (had : ∀ i, i < 12 → r 5 i = nI (ad i) ∧ ad i < 2 ^ 31) (hb : cu_ar r na fb ba) : zd_Ct l D classes (wd_ty k) gd_T y_U_zoneBefore b_U_zoneBefore 7 (some .int) (zd_rm 0) [.ref (q 18), .int (nI X0)] (wd k q v r ex)
    (fun v1 w1 => ∃ X, cu_is na (fun a X => decide (c a = 0) && fb a && decide (ad a &&& X ≠ 0)) (fun a => 2 ^ ba a) X0 X ∧ X < 2 ^ 11 ∧ v1 = some (.int (nI X)) ∧ w1 = wd k q v r ex) := by
  generalize hte : (fun (a X : Nat) => decide (c a = 0) && fb a && decide (ad a &&& X ≠ 0)) = te
  generalize hpu : (fun a => 2 ^ ba a) = pu
  refine zd_met gd_all (by decide) rfl (Nat.le_of_ble_eq_true rfl) (fun Z E => ?_)
  show Z (wd k q v r ex) [some (.ref (q 18)), some (.int (nI X0)), none, none, none, none, none] 0 []
  have te1 : ∀ a X, te a X = (decide (c a = 0) && fb a && decide (ad a &&& X ≠ 0)) := fun a X => by rw [← hte]
  have pu1 : ∀ a, pu a = 2 ^ ba a := fun a => by rw [← hpu]
  have mono : ∀ a X Y, cu_le X Y → te a X = true → te a Y = true := fun a X Y h ht => by
    rw [te1] at ht ⊢
    simp only [Bool.and_eq_true, decide_eq_true_eq] at ht ⊢
    refine ⟨ht.1, ?_⟩
    obtain ⟨b, h1, h2⟩ := cu_and_ne.mp ht.2
    exact cu_and_ne.mpr ⟨b, h1, h b h2⟩
  have pul : ∀ a, a < na → (∃ Y, te a Y = true) → pu a < 2 ^ 11 := fun a ha ⟨Y, hY⟩ => by
    rw [te1] at hY
    simp only [Bool.and_eq_true] at hY
    have := (hb a ha).2 hY.1.2
    rw [pu1]
    exact Nat.pow_lt_pow_right (by omega) (by omega)
  have acts : ∀ (m a t B X : Nat) (L6 : Option Value), a + m = na → cu_rd te pu B a < 2 ^ 11 →
      (∀ (L5 L6 : Option Value), Z (wd k q v r ex) [some (.ref (q 18)), some (.int (nI X0)), some (.int (nI (cu_rd te pu B na))), some (.int (nI B)), some (.int (nI t)), L5, L6] 104 []) →
      Z (wd k q v r ex) [some (.ref (q 18)), some (.int (nI X0)), some (.int (nI (cu_rd te pu B a))), some (.int (nI B)), some (.int (nI t)), some (.int (nI a)), L6] 24 [] := by
    intro m
    induction m with
    | zero =>
      intro a t B X L6 ha hlt kk
      have e : a = na := by omega
      subst e
      refine zd_iload E (pc := 24) d_U_zoneBefore_24 rfl ?_
      refine zd_aload_n E (pc := 26) d_U_zoneBefore_26 rfl ?_
      refine zd_get E (pc := 27) d_U_zoneBefore_27 kf_U_21 18 rfl rfl ?_
      refine zd_get E (pc := 30) d_U_zoneBefore_30 kf_U_71 1 rfl rfl ?_
      rw [hv1]
      refine zd_nc_ge E (pc := 33) 104 d_U_zoneBefore_33 (by decide) ((by omega)) ((by omega)) (fun hq => ?_) (fun hq => ?_)
      · exact kk _ _
      · omega
    | succ m ih =>
      intro a t B X L6 ha hlt kk
      have ha12 : a < 12 := by omega
      have han : a < na := by omega
      obtain ⟨c1, c2⟩ := hc a ha12
      obtain ⟨a1, a2⟩ := had a ha12
      obtain ⟨b1, b2⟩ := hb a han
      have tail : ∀ (Y : Nat) (L6 : Option Value), Y = cu_rd te pu B (a + 1) → Y < 2 ^ 11 → Z (wd k q v r ex) [some (.ref (q 18)), some (.int (nI X0)), some (.int (nI Y)), some (.int (nI B)), some (.int (nI t)), some (.int (nI a)), L6] 98 [] := by
        intro Y L6 hY hlt2
        subst hY
        refine zd_iinc E (pc := 98) d_U_zoneBefore_98 rfl (bm_inc a) (by decide) ?_
        refine zd_goto E (pc := 101) 24 d_U_zoneBefore_101 (by decide) ?_
        exact ih (a + 1) t B X L6 (by omega) hlt2 kk
      have skip : te a (cu_rd te pu B a) = false → ∀ (L6 : Option Value), Z (wd k q v r ex) [some (.ref (q 18)), some (.int (nI X0)), some (.int (nI (cu_rd te pu B a))), some (.int (nI B)), some (.int (nI t)), some (.int (nI a)), L6] 98 [] := fun hz L6 => tail _ L6 (by rw [cu_rd, if_neg (by rw [hz]; decide)]) hlt
      have nofree : (decide (c a = 0) && fb a) = false → ∀ (L6 : Option Value), Z (wd k q v r ex) [some (.ref (q 18)), some (.int (nI X0)), some (.int (nI (cu_rd te pu B a))), some (.int (nI B)), some (.int (nI t)), some (.int (nI a)), L6] 61 [] := by
        intro hz L6
        refine zd_iconst E (pc := 61) (v := (nI 0)) d_U_zoneBefore_61 (by decide) ?_
        refine zd_istore E (pc := 62) d_U_zoneBefore_62 (by decide) ?_
        refine zd_iload E (pc := 64) d_U_zoneBefore_64 rfl ?_
        refine zd_if_eq E (pc := 66) 98 d_U_zoneBefore_66 (by decide) (fun hq => ?_) (fun hq => ?_)
        · exact skip (by rw [te1, hz]; rfl) _
        · exact absurd rfl hq
      refine zd_iload E (pc := 24) d_U_zoneBefore_24 rfl ?_
      refine zd_aload_n E (pc := 26) d_U_zoneBefore_26 rfl ?_
      refine zd_get E (pc := 27) d_U_zoneBefore_27 kf_U_21 18 rfl rfl ?_
      refine zd_get E (pc := 30) d_U_zoneBefore_30 kf_U_71 1 rfl rfl ?_
      rw [hv1]
      refine zd_nc_ge E (pc := 33) 104 d_U_zoneBefore_33 (by decide) ((by omega)) ((by omega)) (fun hq => ?_) (fun hq => ?_)
      · omega
      · refine zd_aload_n E (pc := 36) d_U_zoneBefore_36 rfl ?_
        refine zd_get E (pc := 37) d_U_zoneBefore_37 kf_U_9 18 rfl rfl ?_
        refine zd_iload E (pc := 40) d_U_zoneBefore_40 rfl ?_
        refine zd_iald E (pc := 42) d_U_zoneBefore_42 19 rfl (t0 := 0) rfl (a) (rfl) (ha12) (by decide) ?_
        rw [c1]
        refine zd_if_ne E (pc := 43) 61 d_U_zoneBefore_43 (by decide) (fun h0 => ?_) (fun h0 => ?_)
        · refine nofree ?_ _
          have : c a ≠ 0 := fun z => h0 (by rw [z]; rfl)
          simp [this]
        · have hc0 : c a = 0 := by
            have h0 := Classical.not_not.mp h0
            exact (nI_eq (by omega) (by omega)).mp (h0.trans nI_0.symm)
          refine zd_aload_n E (pc := 46) d_U_zoneBefore_46 rfl ?_
          refine zd_get E (pc := 47) d_U_zoneBefore_47 kf_U_15 18 rfl rfl ?_
          refine zd_iload E (pc := 50) d_U_zoneBefore_50 rfl ?_
          refine zd_iald E (pc := 52) d_U_zoneBefore_52 20 rfl (t0 := 0) rfl (a) (rfl) (ha12) (by decide) ?_
          rw [b1]
          refine zd_iconst E (pc := 53) (v := (-1)) d_U_zoneBefore_53 (by decide) ?_
          cases hf : fb a with
          | false =>
            rw [if_neg (by decide)]
            refine zd_ic_eq E (pc := 54) 61 d_U_zoneBefore_54 (by decide) (fun hd => ?_) (fun hd => ?_)
            · exact nofree (by rw [hf, Bool.and_false]) _
            · exact absurd rfl hd
          | true =>
            have b3 := b2 hf
            rw [if_pos rfl]
            refine zd_ic_eq E (pc := 54) 61 d_U_zoneBefore_54 (by decide) (fun hd => ?_) (fun hd => ?_)
            · exact absurd hd (bm_m1ne (by omega))
            · refine zd_iconst E (pc := 57) (v := (nI 1)) d_U_zoneBefore_57 (by decide) ?_
              refine zd_goto E (pc := 58) 62 d_U_zoneBefore_58 (by decide) ?_
              refine zd_istore E (pc := 62) d_U_zoneBefore_62 (by decide) ?_
              refine zd_iload E (pc := 64) d_U_zoneBefore_64 rfl ?_
              refine zd_if_eq E (pc := 66) 98 d_U_zoneBefore_66 (by decide) (fun he => ?_) (fun he => ?_)
              · exact absurd he (by decide)
              · refine zd_aload_n E (pc := 69) d_U_zoneBefore_69 rfl ?_
                refine zd_get E (pc := 70) d_U_zoneBefore_70 kf_U_21 18 rfl rfl ?_
                refine zd_get E (pc := 73) d_U_zoneBefore_73 kf_U_74 1 rfl rfl ?_
                refine zd_iconst E (pc := 76) (v := (nI 1)) d_U_zoneBefore_76 (by decide) ?_
                refine zd_aald E (pc := 77) d_U_zoneBefore_77 3 rfl (t0 := 2) rfl rfl (1) (rfl) (by decide) (by decide) rfl ?_
                refine zd_iload E (pc := 78) d_U_zoneBefore_78 rfl ?_
                refine zd_iald E (pc := 80) d_U_zoneBefore_80 5 rfl (t0 := 0) rfl (a) (rfl) (ha12) (by decide) ?_
                rw [a1]
                refine zd_iload_n E (pc := 81) d_U_zoneBefore_81 rfl ?_
                refine zd_iand E (pc := 82) d_U_zoneBefore_82 ?_
                rw [bm_and]
                have hle : ad a &&& cu_rd te pu B a ≤ cu_rd te pu B a := Nat.and_le_right
                refine zd_if_eq E (pc := 83) 98 d_U_zoneBefore_83 (by decide) (fun hg => ?_) (fun hg => ?_)
                · refine skip ?_ _
                  have : ad a &&& cu_rd te pu B a = 0 := (nI_eq (by omega) (by omega)).mp (hg.trans nI_0.symm)
                  rw [te1]
                  simp [this]
                · have hne : ad a &&& cu_rd te pu B a ≠ 0 := fun z => hg (by rw [z]; rfl)
                  refine zd_iload_n E (pc := 86) d_U_zoneBefore_86 rfl ?_
                  refine zd_iconst E (pc := 87) (v := (nI 1)) d_U_zoneBefore_87 (by decide) ?_
                  refine zd_aload_n E (pc := 88) d_U_zoneBefore_88 rfl ?_
                  refine zd_get E (pc := 89) d_U_zoneBefore_89 kf_U_15 18 rfl rfl ?_
                  refine zd_iload E (pc := 92) d_U_zoneBefore_92 rfl ?_
                  refine zd_iald E (pc := 94) d_U_zoneBefore_94 20 rfl (t0 := 0) rfl (a) (rfl) (ha12) (by decide) ?_
                  rw [b1, hf, if_pos rfl]
                  refine zd_ishl E (pc := 95) d_U_zoneBefore_95 ?_
                  rw [bm_one (by omega)]
                  refine zd_ior E (pc := 96) d_U_zoneBefore_96 ?_
                  rw [bm_or]
                  refine zd_istore_n E (pc := 97) d_U_zoneBefore_97 (by decide) ?_
                  have htt : te a (cu_rd te pu B a) = true := by rw [te1, hf]; simp [hc0, hne]
                  refine tail _ _ (by rw [cu_rd, if_pos htt, pu1]) ?_
                  have := pul a han ⟨_, htt⟩
                  rw [pu1] at this
                  exact Nat.or_lt_two_pow hlt this
  have fin : ∀ (X t : Nat) (B : Nat) (L5 L6 : Option Value), cu_le X0 X → X < 2 ^ 11 → cu_cl na te pu X → (∀ Y, cu_le X0 Y → cu_cl na te pu Y → cu_le X Y) → Z (wd k q v r ex) [some (.ref (q 18)), some (.int (nI X0)), some (.int (nI X)), some (.int (nI B)), some (.int (nI t)), L5, L6] 110 [] := by
    intro X t B L5 L6 h1 h2 h3 h4
    refine zd_iload_n E (pc := 110) d_U_zoneBefore_110 rfl ?_
    exact zd_iret E (pc := 111) d_U_zoneBefore_111 ⟨X, ⟨h1, h3, h4⟩, h2, rfl, rfl⟩
  have rounds : ∀ (m t X B : Nat) (L5 L6 : Option Value), t + m = 11 → cu_le X0 X → X < 2 ^ 11 → (∀ Y, cu_le X0 Y → cu_cl na te pu Y → cu_le X Y) → ((t = 0 ∧ B = 0 ∧ X ≠ 0) ∨ (B < 2 ^ 11 ∧ X = cu_rd te pu B na ∧ t ≤ cu_n B 11)) → Z (wd k q v r ex) [some (.ref (q 18)), some (.int (nI X0)), some (.int (nI X)), some (.int (nI B)), some (.int (nI t)), L5, L6] 7 [] := by
    intro m
    induction m with
    | zero =>
      intro t X B L5 L6 ht h1 h2 h3 hcase
      rcases hcase with ⟨z, -, -⟩ | ⟨hB, hX, hn⟩
      · omega
      · have e : X = B := by
          rw [hX]
          exact cu_full (cu_rd_ge B na) (by rw [← hX]; exact h2) (by omega)
        refine zd_iload E (pc := 7) d_U_zoneBefore_7 rfl ?_
        refine zd_bipush E (pc := 9) (v := (nI 10)) d_U_zoneBefore_9 (by decide) ?_
        refine zd_nc_gt E (pc := 11) 110 d_U_zoneBefore_11 (by decide) ((by omega)) ((by omega)) (fun hq => ?_) (fun hq => ?_)
        · exact fin X t B _ _ h1 h2 (by rw [e]; exact cu_rd_fix (by rw [← hX]; exact e) mono) h3
        · omega
    | succ m ih =>
      intro t X B L5 L6 ht h1 h2 h3 hcase
      have hB31 : B < 2 ^ 31 := by rcases hcase with ⟨-, z, -⟩ | ⟨z, -, -⟩ <;> omega
      refine zd_iload E (pc := 7) d_U_zoneBefore_7 rfl ?_
      refine zd_bipush E (pc := 9) (v := (nI 10)) d_U_zoneBefore_9 (by decide) ?_
      refine zd_nc_gt E (pc := 11) 110 d_U_zoneBefore_11 (by decide) ((by omega)) ((by omega)) (fun hq => ?_) (fun hq => ?_)
      · omega
      · refine zd_iload_n E (pc := 14) d_U_zoneBefore_14 rfl ?_
        refine zd_iload_n E (pc := 15) d_U_zoneBefore_15 rfl ?_
        refine zd_nc_eq E (pc := 16) 110 d_U_zoneBefore_16 (by decide) ((by omega)) (hB31) (fun he => ?_) (fun he => ?_)
        · rcases hcase with ⟨-, z, z2⟩ | ⟨hB, hX, hn⟩
          · omega
          · exact fin X t B _ _ h1 h2 (by rw [he]; exact cu_rd_fix (by rw [← hX]; exact he) mono) h3
        · refine zd_iload_n E (pc := 19) d_U_zoneBefore_19 rfl ?_
          refine zd_istore_n E (pc := 20) d_U_zoneBefore_20 (by decide) ?_
          refine zd_iconst E (pc := 21) (v := (nI 0)) d_U_zoneBefore_21 (by decide) ?_
          refine zd_istore E (pc := 22) d_U_zoneBefore_22 (by decide) ?_
          have hn : t + 1 ≤ cu_n X 11 := by
            rcases hcase with ⟨z, -, z2⟩ | ⟨hB, hX, hn⟩
            · have := cu_n_pos h2 z2; omega
            · have := cu_n_lt (X := B) (Y := X) (by rw [hX]; exact cu_rd_ge B na) h2 (fun z => he z.symm)
              omega
          refine acts na 0 t X X _ (by omega) h2 (fun L5 L6 => ?_)
          refine zd_iinc E (pc := 104) d_U_zoneBefore_104 rfl (bm_inc t) (by decide) ?_
          refine zd_goto E (pc := 107) 7 d_U_zoneBefore_107 (by decide) ?_
          exact ih (t + 1) _ X L5 L6 (by omega) (cu_trans h1 (cu_rd_ge X na)) (cu_rd_lt h2 pul na (Nat.le_refl _)) (fun Y hY1 hY2 => cu_rd_le mono (h3 Y hY1 hY2) hY2 na (Nat.le_refl _)) (Or.inr ⟨h2, rfl, hn⟩)
  refine zd_iload_n E (pc := 0) d_U_zoneBefore_0 rfl ?_
  refine zd_istore_n E (pc := 1) d_U_zoneBefore_1 (by decide) ?_
  refine zd_iconst E (pc := 2) (v := (nI 0)) d_U_zoneBefore_2 (by decide) ?_
  refine zd_istore_n E (pc := 3) d_U_zoneBefore_3 (by decide) ?_
  refine zd_iconst E (pc := 4) (v := (nI 0)) d_U_zoneBefore_4 (by decide) ?_
  refine zd_istore E (pc := 5) d_U_zoneBefore_5 (by decide) ?_
  exact rounds 11 0 X0 0 none none rfl (cu_refl _) hX (fun Y hY _ => hY) (Or.inl ⟨rfl, rfl, h00⟩)
set_option maxRecDepth 100000 in
set_option maxHeartbeats 4000000 in
theorem c_U_restBehind (l : Launch) (D : va_G) {X0 V : Nat} {fb : Nat → Bool} {ba : Nat → Nat} (hX : X0 < 2 ^ 11) (hv1 : v 1 = nI na) (hna : na ≤ 12) (had : ∀ i, i < 12 → r 5 i = nI (ad i) ∧ ad i < 2 ^ 11) (hb : cu_ar r na fb ba) : zd_Ct l D classes (wd_ty k) gd_T y_U_restBehind b_U_restBehind 7 (some .int) (zd_rm 2) [.ref (q 18), .int (nI X0), .int (nI V)] (wd k q v r ex)
    (fun v1 w1 => ∃ X, cu_is na (fun a X => fb a && X.testBit (ba a)) (fun a => bm_dif (ad a) V) X0 X ∧ X < 2 ^ 11 ∧ v1 = some (.int (nI X)) ∧ w1 = wd k q v r ex) := by
  generalize hte : (fun (a X : Nat) => fb a && X.testBit (ba a)) = te
  generalize hpu : (fun a => bm_dif (ad a) V) = pu
  refine zd_met gd_all (by decide) rfl (Nat.le_of_ble_eq_true rfl) (fun Z E => ?_)
  show Z (wd k q v r ex) [some (.ref (q 18)), some (.int (nI X0)), some (.int (nI V)), none, none, none, none] 0 []
  have te1 : ∀ a X, te a X = (fb a && X.testBit (ba a)) := fun a X => by rw [← hte]
  have pu1 : ∀ a, pu a = bm_dif (ad a) V := fun a => by rw [← hpu]
  have mono : ∀ a X Y, cu_le X Y → te a X = true → te a Y = true := fun a X Y h ht => by
    rw [te1] at ht ⊢
    simp only [Bool.and_eq_true] at ht ⊢
    exact ⟨ht.1, h _ ht.2⟩
  have pul : ∀ a, a < na → (∃ Y, te a Y = true) → pu a < 2 ^ 11 := fun a ha _ => by
    rw [pu1]
    exact tk_dif_lt (had a (by omega)).2
  have acts : ∀ (m a t B : Nat), a + m = na → cu_rd te pu B a < 2 ^ 11 →
      (∀ (L6 : Option Value), Z (wd k q v r ex) [some (.ref (q 18)), some (.int (nI X0)), some (.int (nI V)), some (.int (nI (cu_rd te pu B na))), some (.int (nI B)), some (.int (nI t)), L6] 74 []) →
      Z (wd k q v r ex) [some (.ref (q 18)), some (.int (nI X0)), some (.int (nI V)), some (.int (nI (cu_rd te pu B a))), some (.int (nI B)), some (.int (nI t)), some (.int (nI a))] 27 [] := by
    intro m
    induction m with
    | zero =>
      intro a t B ha hlt kk
      have e : a = na := by omega
      subst e
      refine zd_iload E (pc := 27) d_U_restBehind_27 rfl ?_
      refine zd_aload_n E (pc := 29) d_U_restBehind_29 rfl ?_
      refine zd_get E (pc := 30) d_U_restBehind_30 kf_U_21 18 rfl rfl ?_
      refine zd_get E (pc := 33) d_U_restBehind_33 kf_U_71 1 rfl rfl ?_
      rw [hv1]
      refine zd_nc_ge E (pc := 36) 74 d_U_restBehind_36 (by decide) ((by omega)) ((by omega)) (fun hq => ?_) (fun hq => ?_)
      · exact kk _
      · omega
    | succ m ih =>
      intro a t B ha hlt kk
      have ha12 : a < 12 := by omega
      have han : a < na := by omega
      obtain ⟨a1, a2⟩ := had a ha12
      have tail : ∀ (Y : Nat), Y = cu_rd te pu B (a + 1) → Y < 2 ^ 11 → Z (wd k q v r ex) [some (.ref (q 18)), some (.int (nI X0)), some (.int (nI V)), some (.int (nI Y)), some (.int (nI B)), some (.int (nI t)), some (.int (nI a))] 68 [] := by
        intro Y hY hlt2
        subst hY
        refine zd_iinc E (pc := 68) d_U_restBehind_68 rfl (bm_inc a) (by decide) ?_
        refine zd_goto E (pc := 71) 27 d_U_restBehind_71 (by decide) ?_
        exact ih (a + 1) t B (by omega) hlt2 kk
      refine zd_iload E (pc := 27) d_U_restBehind_27 rfl ?_
      refine zd_aload_n E (pc := 29) d_U_restBehind_29 rfl ?_
      refine zd_get E (pc := 30) d_U_restBehind_30 kf_U_21 18 rfl rfl ?_
      refine zd_get E (pc := 33) d_U_restBehind_33 kf_U_71 1 rfl rfl ?_
      rw [hv1]
      refine zd_nc_ge E (pc := 36) 74 d_U_restBehind_36 (by decide) ((by omega)) ((by omega)) (fun hq => ?_) (fun hq => ?_)
      · omega
      · refine zd_aload_n E (pc := 39) d_U_restBehind_39 rfl ?_
        refine zd_iload_n E (pc := 40) d_U_restBehind_40 rfl ?_
        refine zd_iload E (pc := 41) d_U_restBehind_41 rfl ?_
        refine zd_callV E (pc := 43) d_U_restBehind_43 kc_U_88 rfl ki_U_isBasedIn ke_U_isBasedIn 18 rfl rfl (c_U_isBasedIn l D (show cu_rd te pu B a < 2 ^ 31 by omega) han hna hb) (by decide) rfl (Nat.le_of_ble_eq_true rfl) (fun v1 ws1 hv1 => ?_)
        obtain ⟨rfl, rfl⟩ := hv1
        rw [← te1]
        refine zd_bf_eq E (pc := 46) 68 d_U_restBehind_46 (by decide) (fun hbit => ?_) (fun hbit => ?_)
        · exact tail _ (by rw [cu_rd, if_neg hbit]) hlt
        · refine zd_iload_n E (pc := 49) d_U_restBehind_49 rfl ?_
          refine zd_aload_n E (pc := 50) d_U_restBehind_50 rfl ?_
          refine zd_get E (pc := 51) d_U_restBehind_51 kf_U_21 18 rfl rfl ?_
          refine zd_get E (pc := 54) d_U_restBehind_54 kf_U_74 1 rfl rfl ?_
          refine zd_iconst E (pc := 57) (v := (nI 1)) d_U_restBehind_57 (by decide) ?_
          refine zd_aald E (pc := 58) d_U_restBehind_58 3 rfl (t0 := 2) rfl rfl (1) (rfl) (by decide) (by decide) rfl ?_
          refine zd_iload E (pc := 59) d_U_restBehind_59 rfl ?_
          refine zd_iald E (pc := 61) d_U_restBehind_61 5 rfl (t0 := 0) rfl (a) (rfl) (ha12) (by decide) ?_
          rw [a1]
          refine zd_iload_n E (pc := 62) d_U_restBehind_62 rfl ?_
          refine zd_iconst E (pc := 63) (v := (-1)) d_U_restBehind_63 (by decide) ?_
          refine zd_ixor E (pc := 64) d_U_restBehind_64 ?_
          refine zd_iand E (pc := 65) d_U_restBehind_65 ?_
          rw [bm_dif32]
          refine zd_ior E (pc := 66) d_U_restBehind_66 ?_
          rw [bm_or]
          refine zd_istore_n E (pc := 67) d_U_restBehind_67 (by decide) ?_
          have := pul a han ⟨_, hbit⟩
          rw [pu1] at this
          exact tail _ (by rw [cu_rd, if_pos hbit, pu1]) (Nat.or_lt_two_pow hlt this)
  have fin : ∀ (X t : Nat) (B : Nat) (L6 : Option Value), cu_le X0 X → X < 2 ^ 11 → cu_cl na te pu X → (∀ Y, cu_le X0 Y → cu_cl na te pu Y → cu_le X Y) → Z (wd k q v r ex) [some (.ref (q 18)), some (.int (nI X0)), some (.int (nI V)), some (.int (nI X)), some (.int (nI B)), some (.int (nI t)), L6] 80 [] := by
    intro X t B L6 h1 h2 h3 h4
    refine zd_iload_n E (pc := 80) d_U_restBehind_80 rfl ?_
    exact zd_iret E (pc := 81) d_U_restBehind_81 ⟨X, ⟨h1, h3, h4⟩, h2, rfl, rfl⟩
  have rounds : ∀ (m t X B : Nat) (L6 : Option Value), t + m = 11 → cu_le X0 X → X < 2 ^ 11 → (∀ Y, cu_le X0 Y → cu_cl na te pu Y → cu_le X Y) → ((t = 0 ∧ B = 0) ∨ (B < 2 ^ 11 ∧ X = cu_rd te pu B na ∧ t ≤ cu_n B 11)) → Z (wd k q v r ex) [some (.ref (q 18)), some (.int (nI X0)), some (.int (nI V)), some (.int (nI X)), some (.int (nI B)), some (.int (nI t)), L6] 8 [] := by
    intro m
    induction m with
    | zero =>
      intro t X B L6 ht h1 h2 h3 hcase
      rcases hcase with ⟨z, -⟩ | ⟨hB, hX, hn⟩
      · omega
      · have e : X = B := by
          rw [hX]
          exact cu_full (cu_rd_ge B na) (by rw [← hX]; exact h2) (by omega)
        refine zd_iload E (pc := 8) d_U_restBehind_8 rfl ?_
        refine zd_bipush E (pc := 10) (v := (nI 10)) d_U_restBehind_10 (by decide) ?_
        refine zd_nc_gt E (pc := 12) 80 d_U_restBehind_12 (by decide) ((by omega)) ((by omega)) (fun hq => ?_) (fun hq => ?_)
        · exact fin X t B _ h1 h2 (by rw [e]; exact cu_rd_fix (by rw [← hX]; exact e) mono) h3
        · omega
    | succ m ih =>
      intro t X B L6 ht h1 h2 h3 hcase
      have hB31 : B < 2 ^ 31 := by rcases hcase with ⟨-, z⟩ | ⟨z, -, -⟩ <;> omega
      refine zd_iload E (pc := 8) d_U_restBehind_8 rfl ?_
      refine zd_bipush E (pc := 10) (v := (nI 10)) d_U_restBehind_10 (by decide) ?_
      refine zd_nc_gt E (pc := 12) 80 d_U_restBehind_12 (by decide) ((by omega)) ((by omega)) (fun hq => ?_) (fun hq => ?_)
      · omega
      · refine zd_iload_n E (pc := 15) d_U_restBehind_15 rfl ?_
        refine zd_iload E (pc := 16) d_U_restBehind_16 rfl ?_
        refine zd_nc_eq E (pc := 18) 80 d_U_restBehind_18 (by decide) ((by omega)) (hB31) (fun he => ?_) (fun he => ?_)
        · rcases hcase with ⟨-, z⟩ | ⟨hB, hX, hn⟩
          · refine fin X t B _ h1 h2 (fun a ha ht => ?_) h3
            rw [te1, he, z, Nat.zero_testBit, Bool.and_false] at ht
            cases ht
          · exact fin X t B _ h1 h2 (by rw [he]; exact cu_rd_fix (by rw [← hX]; exact he) mono) h3
        · refine zd_iload_n E (pc := 21) d_U_restBehind_21 rfl ?_
          refine zd_istore E (pc := 22) d_U_restBehind_22 (by decide) ?_
          refine zd_iconst E (pc := 24) (v := (nI 0)) d_U_restBehind_24 (by decide) ?_
          refine zd_istore E (pc := 25) d_U_restBehind_25 (by decide) ?_
          have hn : t + 1 ≤ cu_n X 11 := by
            rcases hcase with ⟨z, z2⟩ | ⟨hB, hX, hn⟩
            · have := cu_n_pos h2 (fun y => he (y.trans z2.symm)); omega
            · have := cu_n_lt (X := B) (Y := X) (by rw [hX]; exact cu_rd_ge B na) h2 (fun z => he z.symm)
              omega
          refine acts na 0 t X (by omega) h2 (fun L6 => ?_)
          refine zd_iinc E (pc := 74) d_U_restBehind_74 rfl (bm_inc t) (by decide) ?_
          refine zd_goto E (pc := 77) 8 d_U_restBehind_77 (by decide) ?_
          exact ih (t + 1) _ X L6 (by omega) (cu_trans h1 (cu_rd_ge X na)) (cu_rd_lt h2 pul na (Nat.le_refl _)) (fun Y hY1 hY2 => cu_rd_le mono (h3 Y hY1 hY2) hY2 na (Nat.le_refl _)) (Or.inr ⟨h2, rfl, hn⟩)
  refine zd_iload_n E (pc := 0) d_U_restBehind_0 rfl ?_
  refine zd_istore_n E (pc := 1) d_U_restBehind_1 (by decide) ?_
  refine zd_iconst E (pc := 2) (v := (nI 0)) d_U_restBehind_2 (by decide) ?_
  refine zd_istore E (pc := 3) d_U_restBehind_3 (by decide) ?_
  refine zd_iconst E (pc := 5) (v := (nI 0)) d_U_restBehind_5 (by decide) ?_
  refine zd_istore E (pc := 6) d_U_restBehind_6 (by decide) ?_
  exact rounds 11 0 X0 0 none rfl (cu_refl _) hX (fun Y hY _ => hY) (Or.inl ⟨rfl, rfl⟩)
end CT
end
section
/-! Contracts of the cuts: pay, goalHeight, nextCut. -/
section CC2
variable {Z : va_W → List (Option Value) → Nat → List Value → Prop} {l : Launch} {D : va_G} {cl : List vw_C} {tys : List (ClassId × FieldType)} {cc : ByteArray} {nL : Nat} {own : String} {Ts : List Cond} {R : Room} {ret : Option FieldType} {post : Option Value → va_W → Prop}
variable {ws : va_W} {L : List (Option Value)} {pc : Nat} {st : List Value}
/-- System.arraycopy of a whole array of ints into another of its length -/
theorem zd_copy (E : zd_E Z l D cl tys cc nL own Ts R ret post) {index a0 a1 t0 N : Nat} {cA : ClassId} {f g : Nat → Int32} {ws1 : va_W} (d : decode cc pc = .ok (.invokestatic index, 3)) (h1 : Cond.methodLink own index arraycopyName ∈ Ts) (h2 : Cond.native arraycopyName ∈ Ts) (h3 : Cond.static arraycopyName ∈ Ts) (h4 : Cond.initialized "java/lang/System" ∈ Ts)
    (j0 j1 : Nat) (ha0 : ws[j0]? = some (a0, .inl (cA, N, .inl f))) (ha1 : ws[j1]? = some (a1, .inl (cA, N, .inl g))) (ht : tys[t0]? = some (cA, .int)) (hN : N < 2 ^ 31) (hR : 1 ≤ R.frames) (hR2 : (st.map fun v => v.category).sum + (nativeFrameWords "java/lang/System" "arraycopy" 5 + 11) ≤ R.locals) (hw : ws.set j1 (a1, .inl (cA, N, .inl (va_cpy f g 0 0 N))) = ws1) (k : Z ws1 L (pc + 3) st) : Z ws L pc (.int (nI N) :: .int (nI 0) :: .ref a1 :: .int (nI 0) :: .ref a0 :: st) := by
  obtain ⟨p, e, s, m, args, below, meth, c, A, hx, hb, hml, hown, hts, hK, hr, hlk, rfl⟩ := E
  subst hw
  have e0 : (nI 0).toNatClampNeg = 0 := nI_clamp (by decide)
  have eN : (nI N).toNatClampNeg = N := nI_clamp hN
  exact fun H locs ls hP hD hS hl => va_copyi hx hb (hml.trans hl.1.symm) hown (hts _ h1) (hts _ h2) (hts _ h3) (hts _ h4) hK hP hD hS j0 j1 t0 t0 ha0 ha1 ht ht rfl (nI_pos (by decide)) (nI_pos (by decide)) (nI_pos hN) (by rw [e0, eN]; omega) (by rw [e0, eN]; omega) (fun i _ => rfl) hR hR2 d (by rw [e0, eN]; exact fun H1 locs1 hP1 hD1 hS1 => k H1 locs1 ls hP1 hD1 hS1 hl)
end CC2
section CO
variable {k : Nat → ClassId} {q : Nat → Nat} {v : Nat → Int32} {r : Nat → Nat → Int32} {ex : va_W} {nf na fi go : Nat} {co ne ad dr : Nat → Nat}
set_option maxRecDepth 100000 in
set_option maxHeartbeats 4000000 in
theorem c_U_pay (l : Launch) (D : va_G) {C : Nat} {c : Nat → Nat} (hC : C < 2 ^ 31) (hv1 : v 1 = nI na) (hna : na ≤ 12) (hc : ∀ i, i < 12 → r 19 i = nI (c i) ∧ c i ≤ 9) : zd_Ct l D classes (wd_ty k) gd_T y_U_pay b_U_pay 4 (some .int) (zd_rm 1) [.ref (q 18), .int (nI C)] (wd k q v r ex)
    (fun v1 w1 => ∃ r1 : Nat → Nat → Int32, (∀ i, i ≠ 19 → r1 i = r i) ∧ (∀ i, i < 12 → r1 19 i = nI (if i < na then lm_pay c C (lm_min c C na) i else c i)) ∧ v1 = some (.int (nI (lm_min c C na))) ∧ w1 = wd k q v r1 ex) := by
  refine zd_met gd_all (by decide) rfl (Nat.le_of_ble_eq_true rfl) (fun Z E => ?_)
  show Z (wd k q v r ex) [some (.ref (q 18)), some (.int (nI C)), none, none] 0 []
  have p9 := lm_min_9 c C
  have paid : ∀ (m a : Nat) (r1 : Nat → Nat → Int32), a + m = na → (∀ i, i ≠ 19 → r1 i = r i) → (∀ i, i < 12 → r1 19 i = nI (if i < a then lm_pay c C (lm_min c C na) i else c i)) → Z (wd k q v r1 ex) [some (.ref (q 18)), some (.int (nI C)), some (.int (nI (lm_min c C na))), some (.int (nI a))] 43 [] := by
    intro m
    induction m with
    | zero =>
      intro a r1 ha hf hr
      have e : a = na := by omega
      subst e
      refine zd_iload_n E (pc := 43) d_U_pay_43 rfl ?_
      refine zd_aload_n E (pc := 44) d_U_pay_44 rfl ?_
      refine zd_get E (pc := 45) d_U_pay_45 kf_U_21 18 rfl rfl ?_
      refine zd_get E (pc := 48) d_U_pay_48 kf_U_71 1 rfl rfl ?_
      rw [hv1]
      refine zd_nc_ge E (pc := 51) 78 d_U_pay_51 (by decide) ((by omega)) ((by omega)) (fun hq => ?_) (fun hq => ?_)
      · refine zd_iload_n E (pc := 78) d_U_pay_78 rfl ?_
        exact zd_iret E (pc := 79) d_U_pay_79 ⟨r1, hf, hr, rfl, rfl⟩
      · omega
    | succ m ih =>
      intro a r1 ha hf hr
      have ha12 : a < 12 := by omega
      have hra : r1 19 a = nI (c a) := by rw [hr a ha12, if_neg (by omega)]
      have tail : ∀ (r2 : Nat → Nat → Int32), (∀ i, i ≠ 19 → r2 i = r i) → (∀ i, i < 12 → r2 19 i = nI (if i < a + 1 then lm_pay c C (lm_min c C na) i else c i)) → Z (wd k q v r2 ex) [some (.ref (q 18)), some (.int (nI C)), some (.int (nI (lm_min c C na))), some (.int (nI a))] 72 [] := by
        intro r2 hf2 hr2
        refine zd_iinc E (pc := 72) d_U_pay_72 rfl (bm_inc a) (by decide) ?_
        refine zd_goto E (pc := 75) 43 d_U_pay_75 (by decide) ?_
        exact ih (a + 1) r2 (by omega) hf2 hr2
      have other : ∀ i, i ≠ a → (if i < a then lm_pay c C (lm_min c C na) i else c i) = (if i < a + 1 then lm_pay c C (lm_min c C na) i else c i) := fun i hi => by
        by_cases z : i < a
        · rw [if_pos z, if_pos (by omega)]
        · rw [if_neg z, if_neg (by omega)]
      refine zd_iload_n E (pc := 43) d_U_pay_43 rfl ?_
      refine zd_aload_n E (pc := 44) d_U_pay_44 rfl ?_
      refine zd_get E (pc := 45) d_U_pay_45 kf_U_21 18 rfl rfl ?_
      refine zd_get E (pc := 48) d_U_pay_48 kf_U_71 1 rfl rfl ?_
      rw [hv1]
      refine zd_nc_ge E (pc := 51) 78 d_U_pay_51 (by decide) ((by omega)) ((by omega)) (fun hq => ?_) (fun hq => ?_)
      · omega
      · refine zd_iload_n E (pc := 54) d_U_pay_54 rfl ?_
        refine zd_iload_n E (pc := 55) d_U_pay_55 rfl ?_
        refine zd_callS E (pc := 56) d_U_pay_56 kc_U_92 rfl ks_P_has (c_P_has l D _ _ hC (show a < 32 by omega)) (by decide) rfl (Nat.le_of_ble_eq_true rfl) (fun v1 ws1 hv1 => ?_)
        obtain ⟨rfl, rfl⟩ := hv1
        refine zd_bf_eq E (pc := 59) 72 d_U_pay_59 (by decide) (fun hbit => ?_) (fun hbit => ?_)
        · refine tail r1 hf (fun i hi => ?_)
          rw [hr i hi]
          by_cases e : i = a
          · subst e
            rw [if_neg (by omega), if_pos (by omega)]
            unfold lm_pay
            rw [if_neg hbit]
          · rw [other i e]
        · refine zd_aload_n E (pc := 62) d_U_pay_62 rfl ?_
          refine zd_get E (pc := 63) d_U_pay_63 kf_U_9 18 rfl rfl ?_
          refine zd_iload_n E (pc := 66) d_U_pay_66 rfl ?_
          refine zd_dup2 E (pc := 67) d_U_pay_67 rfl rfl ?_
          refine zd_iald E (pc := 68) d_U_pay_68 19 rfl (t0 := 0) rfl (a) (rfl) (ha12) (by decide) ?_
          rw [hra]
          refine zd_iload_n E (pc := 69) d_U_pay_69 rfl ?_
          refine zd_isub E (pc := 70) d_U_pay_70 ?_
          rw [pk_sub (lm_min_le (show a < na by omega) hbit)]
          refine zd_iast E (pc := 71) d_U_pay_71 19 rfl (t0 := 0) rfl (a) (rfl) (ha12) (by decide) (ws1 := wd k q v (va_up r1 19 (upd (r1 19) a (nI (c a - lm_min c C na)))) ex) rfl ?_
          refine tail _ (fun i hi => by rw [va_up_ne _ _ hi]; exact hf i hi) (fun i hi => ?_)
          rw [va_up_self]
          by_cases e : i = a
          · subst e
            rw [pk_us, if_pos (by omega)]
            unfold lm_pay
            rw [if_pos hbit]
          · rw [pk_un e, hr i hi, other i e]
  have mins : ∀ (m a : Nat), a + m = na → Z (wd k q v r ex) [some (.ref (q 18)), some (.int (nI C)), some (.int (nI (lm_min c C a))), some (.int (nI a))] 5 [] := by
    intro m
    induction m with
    | zero =>
      intro a ha
      have e : a = na := by omega
      subst e
      refine zd_iload_n E (pc := 5) d_U_pay_5 rfl ?_
      refine zd_aload_n E (pc := 6) d_U_pay_6 rfl ?_
      refine zd_get E (pc := 7) d_U_pay_7 kf_U_21 18 rfl rfl ?_
      refine zd_get E (pc := 10) d_U_pay_10 kf_U_71 1 rfl rfl ?_
      rw [hv1]
      refine zd_nc_ge E (pc := 13) 41 d_U_pay_13 (by decide) ((by omega)) ((by omega)) (fun hq => ?_) (fun hq => ?_)
      · refine zd_iconst E (pc := 41) (v := (nI 0)) d_U_pay_41 (by decide) ?_
        refine zd_istore_n E (pc := 42) d_U_pay_42 (by decide) ?_
        exact paid a 0 r (by omega) (fun _ _ => rfl) (fun i hi => by rw [(hc i hi).1, if_neg (by omega)])
      · omega
    | succ m ih =>
      intro a ha
      have ha12 : a < 12 := by omega
      obtain ⟨c1, c2⟩ := hc a ha12
      have p9a := p9 a
      have tail : ∀ x, x = lm_min c C (a + 1) → Z (wd k q v r ex) [some (.ref (q 18)), some (.int (nI C)), some (.int (nI x)), some (.int (nI a))] 35 [] := by
        intro x hx
        subst hx
        refine zd_iinc E (pc := 35) d_U_pay_35 rfl (bm_inc a) (by decide) ?_
        refine zd_goto E (pc := 38) 5 d_U_pay_38 (by decide) ?_
        exact ih (a + 1) (by omega)
      refine zd_iload_n E (pc := 5) d_U_pay_5 rfl ?_
      refine zd_aload_n E (pc := 6) d_U_pay_6 rfl ?_
      refine zd_get E (pc := 7) d_U_pay_7 kf_U_21 18 rfl rfl ?_
      refine zd_get E (pc := 10) d_U_pay_10 kf_U_71 1 rfl rfl ?_
      rw [hv1]
      refine zd_nc_ge E (pc := 13) 41 d_U_pay_13 (by decide) ((by omega)) ((by omega)) (fun hq => ?_) (fun hq => ?_)
      · omega
      · refine zd_iload_n E (pc := 16) d_U_pay_16 rfl ?_
        refine zd_iload_n E (pc := 17) d_U_pay_17 rfl ?_
        refine zd_callS E (pc := 18) d_U_pay_18 kc_U_92 rfl ks_P_has (c_P_has l D _ _ hC (show a < 32 by omega)) (by decide) rfl (Nat.le_of_ble_eq_true rfl) (fun v1 ws1 hv1 => ?_)
        obtain ⟨rfl, rfl⟩ := hv1
        refine zd_bf_eq E (pc := 21) 35 d_U_pay_21 (by decide) (fun hbit => ?_) (fun hbit => ?_)
        · exact tail _ (by rw [lm_min, if_neg hbit])
        · refine zd_iload_n E (pc := 24) d_U_pay_24 rfl ?_
          refine zd_aload_n E (pc := 25) d_U_pay_25 rfl ?_
          refine zd_get E (pc := 26) d_U_pay_26 kf_U_9 18 rfl rfl ?_
          refine zd_iload_n E (pc := 29) d_U_pay_29 rfl ?_
          refine zd_iald E (pc := 30) d_U_pay_30 19 rfl (t0 := 0) rfl (a) (rfl) (ha12) (by decide) ?_
          rw [c1]
          refine zd_mmin E (pc := 31) d_U_pay_31 (gd_in2 87 (by decide +kernel) (by decide +kernel)) (gd_in2 33 (by decide +kernel) (by decide +kernel)) (gd_in1 15 (by decide +kernel) (by decide +kernel)) (gd_in2 34 (by decide +kernel) (by decide +kernel)) ⟨by decide, by decide⟩ (Nat.le_of_ble_eq_true rfl) ?_
          rw [bm_min (by omega) (by omega)]
          refine zd_istore_n E (pc := 34) d_U_pay_34 (by decide) ?_
          exact tail _ (by rw [lm_min, if_pos hbit])
  refine zd_bipush E (pc := 0) (v := (nI 9)) d_U_pay_0 (by decide) ?_
  refine zd_istore_n E (pc := 2) d_U_pay_2 (by decide) ?_
  refine zd_iconst E (pc := 3) (v := (nI 0)) d_U_pay_3 (by decide) ?_
  refine zd_istore_n E (pc := 4) d_U_pay_4 (by decide) ?_
  exact mins na 0 (by omega)
set_option maxRecDepth 100000 in
set_option maxHeartbeats 4000000 in
theorem c_U_goalHeight (l : Launch) (D : va_G) {s : Nat} {c : Nat → Nat} (t : tk_C v r nf na fi go co ne ad dr) (hs : s < 1024) (hc : ∀ i, i < 12 → r 19 i = nI (c i) ∧ c i ≤ 9) : zd_Ct l D classes (wd_ty k) gd_T y_U_goalHeight b_U_goalHeight 2 (some .int) (zd_rm 3) [.ref (q 18), .int (nI s)] (wd k q v r ex)
    (fun v1 w1 => ∃ r1 : Nat → Nat → Int32, (∀ i, i ≠ 17 → r1 i = r i) ∧ (∀ j, j < 10 → r1 17 j = nI (lm_it 1000000 false 10 na c ne ad (fun _ => false) (lm_i0 1000000 s) 10 j)) ∧ v1 = some (.int (nI (lm_jn 1000000 false (lm_it 1000000 false 10 na c ne ad (fun _ => false) (lm_i0 1000000 s) 10) go 10))) ∧ w1 = wd k q v r1 ex) := by
  refine zd_met gd_all (by decide) rfl (Nat.le_of_ble_eq_true rfl) (fun Z E => ?_)
  show Z (wd k q v r ex) [some (.ref (q 18)), some (.int (nI s))] 0 []
  have hbar : (fun a => Nat.testBit 0 a) = (fun _ => false) := by funext a; exact Nat.zero_testBit a
  refine zd_aload_n E (pc := 0) d_U_goalHeight_0 rfl ?_
  refine zd_get E (pc := 1) d_U_goalHeight_1 kf_U_25 18 rfl rfl ?_
  refine zd_iload_n E (pc := 4) d_U_goalHeight_4 rfl ?_
  refine zd_aload_n E (pc := 5) d_U_goalHeight_5 rfl ?_
  refine zd_get E (pc := 6) d_U_goalHeight_6 kf_U_9 18 rfl rfl ?_
  refine zd_iconst E (pc := 9) (v := (nI 0)) d_U_goalHeight_9 (by decide) ?_
  refine zd_iconst E (pc := 10) (v := (nI 0)) d_U_goalHeight_10 (by decide) ?_
  refine zd_callV E (pc := 11) d_U_goalHeight_11 kc_U_58 rfl ki_V_measure ke_V_measure 16 rfl rfl (c_V_measure19 l D (w := false) (show s < 2 ^ 31 by omega) (show 0 < 2 ^ 31 by decide) t.hna.1 t.hna.2 hc t.hne t.had) (by decide) rfl (Nat.le_of_ble_eq_true rfl) (fun v1 ws1 hv1 => ?_)
  obtain ⟨r1, hf, hr, rfl, rfl⟩ := hv1
  rw [hbar] at hr
  refine zd_aload_n E (pc := 14) d_U_goalHeight_14 rfl ?_
  refine zd_get E (pc := 15) d_U_goalHeight_15 kf_U_25 18 rfl rfl ?_
  refine zd_aload_n E (pc := 18) d_U_goalHeight_18 rfl ?_
  refine zd_get E (pc := 19) d_U_goalHeight_19 kf_U_21 18 rfl rfl ?_
  refine zd_get E (pc := 22) d_U_goalHeight_22 kf_U_64 1 rfl rfl ?_
  rw [t.hgo.1]
  refine zd_iconst E (pc := 25) (v := (nI 0)) d_U_goalHeight_25 (by decide) ?_
  refine zd_callV E (pc := 26) d_U_goalHeight_26 kc_U_67 rfl ki_V_joined ke_V_joined 16 rfl rfl (c_V_joined l D (w := false) t.hgo.2 (fun i hi => ⟨hr i hi, Nat.le_trans (lm_it_le _ _ _) (lm_i0_le _ _ _)⟩)) (by decide) rfl (Nat.le_of_ble_eq_true rfl) (fun v1 ws1 hv1 => ?_)
  obtain ⟨rfl, rfl⟩ := hv1
  exact zd_iret E (pc := 29) d_U_goalHeight_29 ⟨r1, hf, hr, rfl, rfl⟩
set_option maxRecDepth 100000 in
set_option maxHeartbeats 4000000 in
theorem c_U_nextCut (l : Launch) (D : va_G) {s : Nat} {c h : Nat → Nat} (t : tk_C v r nf na fi go co ne ad dr) (hs : s < 1024) (hc : ∀ i, i < 12 → r 19 i = nI (c i) ∧ c i ≤ 9) (hh : ∀ i, i < 10 → r 17 i = nI (h i) ∧ h i ≤ 1000000) (hg0 : 0 < lm_jn 1000000 false h go 10) (hg1 : lm_jn 1000000 false h go 10 < 1000000) : zd_Ct l D classes (wd_ty k) gd_T y_U_nextCut b_U_nextCut 6 (some .int) (zd_rm 3) [.ref (q 18), .int (nI s)] (wd k q v r ex)
    (fun v1 w1 => ∃ (r1 : Nat → Nat → Int32) (ba : Nat → Nat) (gb X Y : Nat), (∀ i, i ≠ 20 → r1 i = r i) ∧ (∀ a, a < na → cu_B h (ne a) 10 (ba a)) ∧ cu_B h go 10 gb ∧ cu_is na (cu_tz 1000000 10 c ne ad h) (fun a => 2 ^ ba a) (2 ^ gb) X ∧ cu_is na (cu_tr 1000000 10 ne ba h) (fun a => bm_dif (ad a) X) (bm_dif (s ||| 2 ^ 10) X) Y ∧ v1 = some (.int (nI (cu_mk (cu_ac 1000000 10 ne ad ba h X Y) na))) ∧ w1 = wd k q v r1 ex) := by
  refine zd_met gd_all (by decide) rfl (Nat.le_of_ble_eq_true rfl) (fun Z E => ?_)
  show Z (wd k q v r ex) [some (.ref (q 18)), some (.int (nI s)), none, none, none, none] 0 []
  have hna := t.hna.2
  have had11 : ∀ i, i < 12 → ad i < 2 ^ 11 := fun i hi => by have := (t.2.2.2.1 i hi).2.2.1; have := t.n31; omega
  have val : ∀ S b, (if 1000000 ≤ lm_jn 1000000 false h S 10 then (-1 : Int32) else nI b) = (if decide (lm_jn 1000000 false h S 10 < 1000000) = true then nI b else -1) := fun S b => by
    by_cases z : lm_jn 1000000 false h S 10 < 1000000
    · rw [if_neg (by omega), if_pos (by simpa using z)]
    · rw [if_pos (by omega), if_neg (by simpa using z)]
  have b10 : ∀ S b, cu_B h S 10 b → b ≤ 10 := fun S b hb => by
    rcases hb with ⟨z, -⟩ | ⟨z, -⟩ <;> omega
  -- the actions across
  have across : ∀ (ba : Nat → Nat) (X Y : Nat) (r1 : Nat → Nat → Int32) (gb : Nat), (∀ i, i ≠ 20 → r1 i = r i) → cu_ar r1 na (cu_fin 1000000 10 ne h) ba → (∀ a, a < na → cu_B h (ne a) 10 (ba a)) → cu_B h go 10 gb → X < 2 ^ 11 → Y < 2 ^ 11 → cu_is na (cu_tz 1000000 10 c ne ad h) (fun a => 2 ^ ba a) (2 ^ gb) X → cu_is na (cu_tr 1000000 10 ne ba h) (fun a => bm_dif (ad a) X) (bm_dif (s ||| 2 ^ 10) X) Y →
      ∀ (m a : Nat), a + m = na → Z (wd k q v r1 ex) [some (.ref (q 18)), some (.int (nI s)), some (.int (nI X)), some (.int (nI Y)), some (.int (nI (cu_mk (cu_ac 1000000 10 ne ad ba h X Y) a))), some (.int (nI a))] 85 [] := by
    intro ba X Y r1 gb hf har hB hgb hX hY hXi hYi m
    have f5 : r1 5 = r 5 := hf 5 (by decide)
    induction m with
    | zero =>
      intro a ha
      have e : a = na := by omega
      subst e
      refine zd_iload E (pc := 85) d_U_nextCut_85 rfl ?_
      refine zd_aload_n E (pc := 87) d_U_nextCut_87 rfl ?_
      refine zd_get E (pc := 88) d_U_nextCut_88 kf_U_21 18 rfl rfl ?_
      refine zd_get E (pc := 91) d_U_nextCut_91 kf_U_71 1 rfl rfl ?_
      rw [t.hna.1]
      refine zd_nc_ge E (pc := 94) 139 d_U_nextCut_94 (by decide) ((by omega)) ((by omega)) (fun hq => ?_) (fun hq => ?_)
      · refine zd_iload E (pc := 139) d_U_nextCut_139 rfl ?_
        exact zd_iret E (pc := 141) d_U_nextCut_141 ⟨r1, ba, gb, X, Y, hf, hB, hgb, hXi, hYi, rfl, rfl⟩
      · omega
    | succ m ih =>
      intro a ha
      have ha12 : a < 12 := by omega
      have han : a < na := by omega
      obtain ⟨a1, a2⟩ := t.had a ha12
      have tail : ∀ x, x = cu_mk (cu_ac 1000000 10 ne ad ba h X Y) (a + 1) → Z (wd k q v r1 ex) [some (.ref (q 18)), some (.int (nI s)), some (.int (nI X)), some (.int (nI Y)), some (.int (nI x)), some (.int (nI a))] 133 [] := by
        intro x hx
        subst hx
        refine zd_iinc E (pc := 133) d_U_nextCut_133 rfl (bm_inc a) (by decide) ?_
        refine zd_goto E (pc := 136) 85 d_U_nextCut_136 (by decide) ?_
        exact ih (a + 1) (by omega)
      have skip : cu_ac 1000000 10 ne ad ba h X Y a = false → cu_mk (cu_ac 1000000 10 ne ad ba h X Y) a = cu_mk (cu_ac 1000000 10 ne ad ba h X Y) (a + 1) := fun hz => by
        rw [cu_mk, if_neg (by rw [hz]; decide), Nat.or_zero]
      refine zd_iload E (pc := 85) d_U_nextCut_85 rfl ?_
      refine zd_aload_n E (pc := 87) d_U_nextCut_87 rfl ?_
      refine zd_get E (pc := 88) d_U_nextCut_88 kf_U_21 18 rfl rfl ?_
      refine zd_get E (pc := 91) d_U_nextCut_91 kf_U_71 1 rfl rfl ?_
      rw [t.hna.1]
      refine zd_nc_ge E (pc := 94) 139 d_U_nextCut_94 (by decide) ((by omega)) ((by omega)) (fun hq => ?_) (fun hq => ?_)
      · omega
      · refine zd_aload_n E (pc := 97) d_U_nextCut_97 rfl ?_
        refine zd_iload_n E (pc := 98) d_U_nextCut_98 rfl ?_
        refine zd_iload E (pc := 99) d_U_nextCut_99 rfl ?_
        refine zd_callV E (pc := 101) d_U_nextCut_101 kc_U_88 rfl ki_U_isBasedIn ke_U_isBasedIn 18 rfl rfl (c_U_isBasedIn l D (show Y < 2 ^ 31 by omega) han hna har) (by decide) rfl (Nat.le_of_ble_eq_true rfl) (fun v1 ws1 hv1 => ?_)
        obtain ⟨rfl, rfl⟩ := hv1
        refine zd_bf_eq E (pc := 104) 133 d_U_nextCut_104 (by decide) (fun hbit => ?_) (fun hbit => ?_)
        · refine tail _ (skip ?_)
          unfold cu_ac
          rw [ts_f hbit, Bool.false_and]
        · refine zd_aload_n E (pc := 107) d_U_nextCut_107 rfl ?_
          refine zd_get E (pc := 108) d_U_nextCut_108 kf_U_21 18 rfl rfl ?_
          refine zd_get E (pc := 111) d_U_nextCut_111 kf_U_74 1 rfl rfl ?_
          refine zd_iconst E (pc := 114) (v := (nI 1)) d_U_nextCut_114 (by decide) ?_
          refine zd_aald E (pc := 115) d_U_nextCut_115 3 rfl (t0 := 2) rfl rfl (1) (rfl) (by decide) (by decide) rfl ?_
          refine zd_iload E (pc := 116) d_U_nextCut_116 rfl ?_
          refine zd_iald E (pc := 118) d_U_nextCut_118 5 rfl (t0 := 0) rfl (a) (rfl) (ha12) (by decide) ?_
          rw [f5, a1]
          refine zd_iload_n E (pc := 119) d_U_nextCut_119 rfl ?_
          refine zd_iand E (pc := 120) d_U_nextCut_120 ?_
          rw [bm_and]
          have hle : ad a &&& X ≤ X := Nat.and_le_right
          refine zd_if_eq E (pc := 121) 133 d_U_nextCut_121 (by decide) (fun hz => ?_) (fun hz => ?_)
          · refine tail _ (skip ?_)
            have : ad a &&& X = 0 := (nI_eq (by omega) (by omega)).mp (hz.trans nI_0.symm)
            unfold cu_ac
            simp [this]
          · have hne : ad a &&& X ≠ 0 := fun y => hz (by rw [y]; rfl)
            refine zd_iload E (pc := 124) d_U_nextCut_124 rfl ?_
            refine zd_iconst E (pc := 126) (v := (nI 1)) d_U_nextCut_126 (by decide) ?_
            refine zd_iload E (pc := 127) d_U_nextCut_127 rfl ?_
            refine zd_ishl E (pc := 129) d_U_nextCut_129 ?_
            rw [bm_one (by omega)]
            refine zd_ior E (pc := 130) d_U_nextCut_130 ?_
            rw [bm_or]
            refine zd_istore E (pc := 131) d_U_nextCut_131 (by decide) ?_
            refine tail _ ?_
            have : cu_ac 1000000 10 ne ad ba h X Y a = true := by
              unfold cu_ac
              rw [hbit]
              simp [hne]
            rw [cu_mk, if_pos this]
  -- the bases
  have bases : ∀ (m a : Nat) (r1 : Nat → Nat → Int32) (ba : Nat → Nat), a + m = na → (∀ i, i ≠ 20 → r1 i = r i) → (∀ b, b < a → cu_B h (ne b) 10 (ba b) ∧ r1 20 b = (if cu_fin 1000000 10 ne h b = true then nI (ba b) else -1)) → Z (wd k q v r1 ex) [some (.ref (q 18)), some (.int (nI s)), some (.int (nI a)), none, none, none] 2 [] := by
    intro m
    induction m with
    | zero =>
      intro a r1 ba ha hf hall
      have e : a = na := by omega
      subst e
      have t1 : tk_C v r1 nf a fi go co ne ad dr := t.fr (fun _ _ => rfl) (hf 2 (by decide)) (hf 4 (by decide)) (hf 5 (by decide)) (hf 6 (by decide))
      have f17 : r1 17 = r 17 := hf 17 (by decide)
      have f19 : r1 19 = r 19 := hf 19 (by decide)
      have har : cu_ar r1 a (cu_fin 1000000 10 ne h) ba := fun b hb => ⟨(hall b hb).2, fun _ => b10 _ _ (hall b hb).1⟩
      refine zd_iload_n E (pc := 2) d_U_nextCut_2 rfl ?_
      refine zd_aload_n E (pc := 3) d_U_nextCut_3 rfl ?_
      refine zd_get E (pc := 4) d_U_nextCut_4 kf_U_21 18 rfl rfl ?_
      refine zd_get E (pc := 7) d_U_nextCut_7 kf_U_71 1 rfl rfl ?_
      rw [t.hna.1]
      refine zd_nc_ge E (pc := 10) 43 d_U_nextCut_10 (by decide) ((by omega)) ((by omega)) (fun hq => ?_) (fun hq => ?_)
      · refine zd_aload_n E (pc := 43) d_U_nextCut_43 rfl ?_
        refine zd_iconst E (pc := 44) (v := (nI 1)) d_U_nextCut_44 (by decide) ?_
        refine zd_aload_n E (pc := 45) d_U_nextCut_45 rfl ?_
        refine zd_get E (pc := 46) d_U_nextCut_46 kf_U_25 18 rfl rfl ?_
        refine zd_aload_n E (pc := 49) d_U_nextCut_49 rfl ?_
        refine zd_get E (pc := 50) d_U_nextCut_50 kf_U_21 18 rfl rfl ?_
        refine zd_get E (pc := 53) d_U_nextCut_53 kf_U_64 1 rfl rfl ?_
        rw [t.hgo.1]
        refine zd_callV E (pc := 56) d_U_nextCut_56 kc_U_78 rfl ki_V_baseOf ke_V_baseOf 16 rfl rfl (c_V_baseOf l D t.hgo.2 (fun i hi => ⟨by rw [f17]; exact (hh i hi).1, (hh i hi).2⟩)) (by decide) rfl (Nat.le_of_ble_eq_true rfl) (fun v1 ws1 hv1 => ?_)
        obtain ⟨gb, hgb, rfl, rfl⟩ := hv1
        rw [if_neg (by omega)]
        have hgb10 : gb < 10 := by
          rcases hgb with ⟨-, hz⟩ | ⟨z, -⟩
          · unfold lm_jn at hg0
            rw [cu_jp_0 hz] at hg0
            omega
          · exact z
        refine zd_ishl E (pc := 59) d_U_nextCut_59 ?_
        rw [bm_one (by omega)]
        have h2g : 2 ^ gb < 2 ^ 11 := Nat.pow_lt_pow_right (by omega) (by omega)
        refine zd_callV E (pc := 60) d_U_nextCut_60 kc_U_81 rfl ki_U_zoneBefore ke_U_zoneBefore 18 rfl rfl (c_U_zoneBefore l D h2g (Nat.ne_of_gt (Nat.two_pow_pos gb)) t.hna.1 hna (fun i hi => by rw [f19]; exact hc i hi) t1.had har) (by decide) rfl (Nat.le_of_ble_eq_true rfl) (fun v1 ws1 hv1 => ?_)
        obtain ⟨X, hXi, hX, rfl, rfl⟩ := hv1
        refine zd_istore_n E (pc := 63) d_U_nextCut_63 (by decide) ?_
        refine zd_aload_n E (pc := 64) d_U_nextCut_64 rfl ?_
        refine zd_iload_n E (pc := 65) d_U_nextCut_65 rfl ?_
        refine zd_sipush E (pc := 66) (v := (nI 1024)) d_U_nextCut_66 (by decide) ?_
        refine zd_ior E (pc := 69) d_U_nextCut_69 ?_
        rw [bm_or]
        refine zd_iload_n E (pc := 70) d_U_nextCut_70 rfl ?_
        refine zd_iconst E (pc := 71) (v := (-1)) d_U_nextCut_71 (by decide) ?_
        refine zd_ixor E (pc := 72) d_U_nextCut_72 ?_
        refine zd_iand E (pc := 73) d_U_nextCut_73 ?_
        rw [bm_dif32]
        refine zd_iload_n E (pc := 74) d_U_nextCut_74 rfl ?_
        have hst : bm_dif (s ||| 1024) X < 2 ^ 11 := tk_dif_lt (Nat.or_lt_two_pow (by omega) (by decide))
        refine zd_callV E (pc := 75) d_U_nextCut_75 kc_U_84 rfl ki_U_restBehind ke_U_restBehind 18 rfl rfl (c_U_restBehind l D hst t.hna.1 hna (fun i hi => ⟨(t1.had i hi).1, had11 i hi⟩) har) (by decide) rfl (Nat.le_of_ble_eq_true rfl) (fun v1 ws1 hv1 => ?_)
        obtain ⟨Y, hYi, hY, rfl, rfl⟩ := hv1
        refine zd_istore_n E (pc := 78) d_U_nextCut_78 (by decide) ?_
        refine zd_iconst E (pc := 79) (v := (nI 0)) d_U_nextCut_79 (by decide) ?_
        refine zd_istore E (pc := 80) d_U_nextCut_80 (by decide) ?_
        refine zd_iconst E (pc := 82) (v := (nI 0)) d_U_nextCut_82 (by decide) ?_
        refine zd_istore E (pc := 83) d_U_nextCut_83 (by decide) ?_
        exact across ba X Y r1 gb hf har (fun b hb => (hall b hb).1) hgb hX hY hXi hYi a 0 (by omega)
      · omega
    | succ m ih =>
      intro a r1 ba ha hf hall
      have ha12 : a < 12 := by omega
      have f17 : r1 17 = r 17 := hf 17 (by decide)
      have f4 : r1 4 = r 4 := hf 4 (by decide)
      obtain ⟨n1, n2⟩ := t.hne a ha12
      refine zd_iload_n E (pc := 2) d_U_nextCut_2 rfl ?_
      refine zd_aload_n E (pc := 3) d_U_nextCut_3 rfl ?_
      refine zd_get E (pc := 4) d_U_nextCut_4 kf_U_21 18 rfl rfl ?_
      refine zd_get E (pc := 7) d_U_nextCut_7 kf_U_71 1 rfl rfl ?_
      rw [t.hna.1]
      refine zd_nc_ge E (pc := 10) 43 d_U_nextCut_10 (by decide) ((by omega)) ((by omega)) (fun hq => ?_) (fun hq => ?_)
      · omega
      · refine zd_aload_n E (pc := 13) d_U_nextCut_13 rfl ?_
        refine zd_get E (pc := 14) d_U_nextCut_14 kf_U_15 18 rfl rfl ?_
        refine zd_iload_n E (pc := 17) d_U_nextCut_17 rfl ?_
        refine zd_aload_n E (pc := 18) d_U_nextCut_18 rfl ?_
        refine zd_get E (pc := 19) d_U_nextCut_19 kf_U_25 18 rfl rfl ?_
        refine zd_aload_n E (pc := 22) d_U_nextCut_22 rfl ?_
        refine zd_get E (pc := 23) d_U_nextCut_23 kf_U_21 18 rfl rfl ?_
        refine zd_get E (pc := 26) d_U_nextCut_26 kf_U_74 1 rfl rfl ?_
        refine zd_iconst E (pc := 29) (v := (nI 0)) d_U_nextCut_29 (by decide) ?_
        refine zd_aald E (pc := 30) d_U_nextCut_30 3 rfl (t0 := 2) rfl rfl (0) (rfl) (by decide) (by decide) rfl ?_
        refine zd_iload_n E (pc := 31) d_U_nextCut_31 rfl ?_
        refine zd_iald E (pc := 32) d_U_nextCut_32 4 rfl (t0 := 0) rfl (a) (rfl) (ha12) (by decide) ?_
        rw [f4, n1]
        refine zd_callV E (pc := 33) d_U_nextCut_33 kc_U_78 rfl ki_V_baseOf ke_V_baseOf 16 rfl rfl (c_V_baseOf l D n2 (fun i hi => ⟨by rw [f17]; exact (hh i hi).1, (hh i hi).2⟩)) (by decide) rfl (Nat.le_of_ble_eq_true rfl) (fun v1 ws1 hv1 => ?_)
        obtain ⟨b, hb, rfl, rfl⟩ := hv1
        rw [val]
        refine zd_iast E (pc := 36) d_U_nextCut_36 20 rfl (t0 := 0) rfl (a) (rfl) (ha12) (by decide) (ws1 := wd k q v (va_up r1 20 (upd (r1 20) a (if decide (lm_jn 1000000 false h (ne a) 10 < 1000000) = true then nI b else -1))) ex) rfl ?_
        refine zd_iinc E (pc := 37) d_U_nextCut_37 rfl (bm_inc a) (by decide) ?_
        refine zd_goto E (pc := 40) 2 d_U_nextCut_40 (by decide) ?_
        refine ih (a + 1) _ (va_up ba a b) (by omega) (fun i hi => by rw [va_up_ne _ _ hi]; exact hf i hi) (fun b2 hb2 => ?_)
        rw [va_up_self]
        by_cases e : b2 = a
        · subst e
          rw [va_up_self, pk_us]
          exact ⟨hb, rfl⟩
        · rw [va_up_ne _ _ e, pk_un e]
          exact hall b2 (by omega)
  refine zd_iconst E (pc := 0) (v := (nI 0)) d_U_nextCut_0 (by decide) ?_
  refine zd_istore_n E (pc := 1) d_U_nextCut_1 (by decide) ?_
  exact bases na 0 r (fun _ => 0) (by omega) (fun _ _ => rfl) (fun b hb => by omega)
end CO
end
section
/-! collect: all cuts of a state. -/
theorem cu_mk_lt (P : Nat → Bool) (n : Nat) : cu_mk P n < 2 ^ n := bm_lt fun i hi => by
  rw [cu_mk_bit] at hi
  simp only [Bool.and_eq_true, decide_eq_true_eq] at hi
  exact hi.1
/-- the levels under costs c, and the goal's -/
def cs_L (na : Nat) (c ne ad : Nat → Nat) (s : Nat) : Nat → Nat := lm_it 1000000 false 10 na c ne ad (fun _ => false) (lm_i0 1000000 s) 10
def cs_G (na : Nat) (c ne ad : Nat → Nat) (s go : Nat) : Nat := lm_jn 1000000 false (cs_L na c ne ad s) go 10
/-- C is the cut under the costs c -/
def cs_one (na : Nat) (c ne ad : Nat → Nat) (s go C : Nat) : Prop := ∃ (ba : Nat → Nat) (gb X Y : Nat), (∀ a, a < na → cu_B (cs_L na c ne ad s) (ne a) 10 (ba a)) ∧ cu_B (cs_L na c ne ad s) go 10 gb ∧ cu_is na (cu_tz 1000000 10 c ne ad (cs_L na c ne ad s)) (fun a => 2 ^ ba a) (2 ^ gb) X ∧ cu_is na (cu_tr 1000000 10 ne ba (cs_L na c ne ad s)) (fun a => bm_dif (ad a) X) (bm_dif (s ||| 2 ^ 10) X) Y ∧ C = cu_mk (cu_ac 1000000 10 ne ad ba (cs_L na c ne ad s) X Y) na
def cs_pay (na : Nat) (c : Nat → Nat) (C p : Nat) : Nat → Nat := fun i => if i < na then lm_pay c C p i else c i
/-- m cuts, one behind another: the costs, the cuts, the prices -/
def cs_run (na : Nat) (co ne ad : Nat → Nat) (s go m : Nat) (cc : Nat → Nat → Nat) (CC pp : Nat → Nat) : Prop := cc 0 = co ∧ ∀ j, j < m → 0 < cs_G na (cc j) ne ad s go ∧ cs_G na (cc j) ne ad s go < 1000000 ∧ cs_one na (cc j) ne ad s go (CC j) ∧ pp j = lm_min (cc j) (CC j) na ∧ cc (j + 1) = cs_pay na (cc j) (CC j) (pp j)
theorem kz_link : Cond.methodLink "CutPlanner$Cuts" 34 arraycopyName ∈ gd_T := gd_in2 52 (by decide +kernel) (by decide +kernel)
theorem kz_native : Cond.native arraycopyName ∈ gd_T := gd_in2 54 (by decide +kernel) (by decide +kernel)
theorem kz_static : Cond.static arraycopyName ∈ gd_T := gd_in2 53 (by decide +kernel) (by decide +kernel)
theorem kz_init : Cond.initialized "java/lang/System" ∈ gd_T := gd_in1 16 (by decide +kernel) (by decide +kernel)
section AC
variable {k : Nat → ClassId} {q : Nat → Nat} {v : Nat → Int32} {r : Nat → Nat → Int32} {ex : va_W} {nf na fi go : Nat} {co ne ad dr : Nat → Nat}
set_option maxRecDepth 100000 in
set_option maxHeartbeats 4000000 in
theorem c_U_collect (l : Launch) (D : va_G) {s : Nat} (t : tk_C v r nf na fi go co ne ad dr) (hs : s < 1024) : zd_Ct l D classes (wd_ty k) gd_T y_U_collect b_U_collect 4 none (zd_rm 4) [.ref (q 18), .int (nI s)] (wd k q v r ex)
    (fun v1 w1 => ∃ (v2 : Nat → Int32) (r2 : Nat → Nat → Int32) (m : Nat) (cc : Nat → Nat → Nat) (CC pp : Nat → Nat), (∀ i, i ≠ 7 → i ≠ 8 → v2 i = v i) ∧ (∀ i, i ≠ 17 → i ≠ 19 → i ≠ 20 → i ≠ 21 → r2 i = r i) ∧ cs_run na co ne ad s go m cc CC pp ∧ m ≤ 12 ∧ (m = 12 ∨ cs_G na (cc m) ne ad s go = 0 ∨ 1000000 ≤ cs_G na (cc m) ne ad s go) ∧ v2 7 = nI m ∧ (∀ j, j < m → r2 21 j = nI (CC j)) ∧ v2 8 = (if 1000000 ≤ cs_G na (cc m) ne ad s go then -1 else nI (lm_sum pp m)) ∧ v1 = none ∧ w1 = wd k q v2 r2 ex) := by
  refine zd_met gd_all (by decide) rfl (Nat.le_of_ble_eq_true rfl) (fun Z E => ?_)
  show Z (wd k q v r ex) [some (.ref (q 18)), some (.int (nI s)), none, none] 0 []
  have hna := t.hna.2
  have G31 : ∀ c, cs_G na c ne ad s go ≤ 1000000 := fun c => lm_jn_le _ _ _ _ _
  have L31 : ∀ c j, cs_L na c ne ad s j ≤ 1000000 := fun c j => Nat.le_trans (lm_it_le _ _ _) (lm_i0_le _ _ _)
  have fin : ∀ (v1 : Nat → Int32) (r1 : Nat → Nat → Int32) (m : Nat) (cc : Nat → Nat → Nat) (CC pp : Nat → Nat), (∀ i, i ≠ 7 → i ≠ 8 → v1 i = v i) → (∀ i, i ≠ 17 → i ≠ 19 → i ≠ 20 → i ≠ 21 → r1 i = r i) → cs_run na co ne ad s go m cc CC pp → m ≤ 12 → (m = 12 ∨ cs_G na (cc m) ne ad s go = 0 ∨ 1000000 ≤ cs_G na (cc m) ne ad s go) → v1 7 = nI m → (∀ j, j < m → r1 21 j = nI (CC j)) → v1 8 = nI (lm_sum pp m) →
      Z (wd k q v1 r1 ex) [some (.ref (q 18)), some (.int (nI s)), some (.int (nI (cs_G na (cc m) ne ad s go))), some (.int (nI m))] 101 [] := by
    intro v1 r1 m cc CC pp hfv hfr hrun hm hend h7 h21 h8
    have hG := G31 (cc m)
    refine zd_iload_n E (pc := 101) d_U_collect_101 rfl ?_
    refine zd_ldc E (pc := 102) (v := (nI 1000000)) d_U_collect_102 kk_U_51 ?_
    refine zd_nc_lt E (pc := 104) 112 d_U_collect_104 (by decide) ((by omega)) ((by omega)) (fun hq => ?_) (fun hq => ?_)
    · exact zd_vret E (pc := 112) d_U_collect_112 ⟨v1, r1, m, cc, CC, pp, hfv, hfr, hrun, hm, hend, h7, h21, by rw [if_neg (by omega)]; exact h8, rfl, rfl⟩
    · refine zd_aload_n E (pc := 107) d_U_collect_107 rfl ?_
      refine zd_iconst E (pc := 108) (v := (-1)) d_U_collect_108 (by decide) ?_
      refine zd_put E (pc := 109) d_U_collect_109 kp_U_44 18 rfl (Nat.le_of_ble_eq_true rfl) (ws1 := wd k q (upd v1 8 (-1)) r1 ex) rfl ?_
      exact zd_vret E (pc := 112) d_U_collect_112 ⟨upd v1 8 (-1), r1, m, cc, CC, pp, fun i a b => by rw [pk_un b]; exact hfv i a b, hfr, hrun, hm, hend, by rw [pk_un (by decide)]; exact h7, h21, by rw [if_pos hq, pk_us], rfl, rfl⟩
  have loop : ∀ (n m : Nat) (v1 : Nat → Int32) (r1 : Nat → Nat → Int32) (cc : Nat → Nat → Nat) (CC pp : Nat → Nat), m + n = 12 → (∀ i, i ≠ 7 → i ≠ 8 → v1 i = v i) → (∀ i, i ≠ 17 → i ≠ 19 → i ≠ 20 → i ≠ 21 → r1 i = r i) → cs_run na co ne ad s go m cc CC pp → v1 7 = nI m → (∀ j, j < m → r1 21 j = nI (CC j)) → v1 8 = nI (lm_sum pp m) → (∀ i, i < 12 → r1 19 i = nI (cc m i) ∧ cc m i ≤ 9) → (∀ j, j < 10 → r1 17 j = nI (cs_L na (cc m) ne ad s j)) →
      Z (wd k q v1 r1 ex) [some (.ref (q 18)), some (.int (nI s)), some (.int (nI (cs_G na (cc m) ne ad s go))), some (.int (nI m))] 36 [] := by
    intro n
    induction n with
    | zero =>
      intro m v1 r1 cc CC pp hm hfv hfr hrun h7 h21 h8 h19 h17
      have e : m = 12 := by omega
      refine zd_iload_n E (pc := 36) d_U_collect_36 rfl ?_
      refine zd_bipush E (pc := 37) (v := (nI 12)) d_U_collect_37 (by decide) ?_
      refine zd_nc_ge E (pc := 39) 101 d_U_collect_39 (by decide) ((by omega)) ((by omega)) (fun hq => ?_) (fun hq => ?_)
      · exact fin v1 r1 m cc CC pp hfv hfr hrun (by omega) (Or.inl e) h7 h21 h8
      · omega
    | succ n ih =>
      intro m v1 r1 cc CC pp hm hfv hfr hrun h7 h21 h8 h19 h17
      have hG := G31 (cc m)
      have t1 : tk_C v1 r1 nf na fi go co ne ad dr := t.fr (fun i hi => hfv i (by omega) (by omega)) (hfr 2 (by decide) (by decide) (by decide) (by decide)) (hfr 4 (by decide) (by decide) (by decide) (by decide)) (hfr 5 (by decide) (by decide) (by decide) (by decide)) (hfr 6 (by decide) (by decide) (by decide) (by decide))
      refine zd_iload_n E (pc := 36) d_U_collect_36 rfl ?_
      refine zd_bipush E (pc := 37) (v := (nI 12)) d_U_collect_37 (by decide) ?_
      refine zd_nc_ge E (pc := 39) 101 d_U_collect_39 (by decide) ((by omega)) ((by omega)) (fun hq => ?_) (fun hq => ?_)
      · omega
      · refine zd_iload_n E (pc := 42) d_U_collect_42 rfl ?_
        refine zd_if_le E (pc := 43) 101 d_U_collect_43 (by decide) (fun hz => ?_) (fun hz => ?_)
        · refine fin v1 r1 m cc CC pp hfv hfr hrun (by omega) (Or.inr (Or.inl ?_)) h7 h21 h8
          by_cases z : cs_G na (cc m) ne ad s go = 0
          · exact z
          · exact absurd hz (nI_nle (by omega) (by omega))
        · have hG0 : 0 < cs_G na (cc m) ne ad s go := by
            by_cases z : cs_G na (cc m) ne ad s go = 0
            · rw [z] at hz; exact absurd (by decide) hz
            · omega
          refine zd_iload_n E (pc := 46) d_U_collect_46 rfl ?_
          refine zd_ldc E (pc := 47) (v := (nI 1000000)) d_U_collect_47 kk_U_51 ?_
          refine zd_nc_ge E (pc := 49) 101 d_U_collect_49 (by decide) ((by omega)) ((by omega)) (fun hq2 => ?_) (fun hq2 => ?_)
          · exact fin v1 r1 m cc CC pp hfv hfr hrun (by omega) (Or.inr (Or.inr hq2)) h7 h21 h8
          · refine zd_aload_n E (pc := 52) d_U_collect_52 rfl ?_
            refine zd_get E (pc := 53) d_U_collect_53 kf_U_18 18 rfl rfl ?_
            refine zd_iload_n E (pc := 56) d_U_collect_56 rfl ?_
            refine zd_aload_n E (pc := 57) d_U_collect_57 rfl ?_
            refine zd_iload_n E (pc := 58) d_U_collect_58 rfl ?_
            refine zd_callV E (pc := 59) d_U_collect_59 kc_U_52 rfl ki_U_nextCut ke_U_nextCut 18 rfl rfl (c_U_nextCut l D t1 hs h19 (fun j hj => ⟨h17 j hj, L31 _ j⟩) hG0 hq2) (by decide) rfl (Nat.le_of_ble_eq_true rfl) (fun v1 ws1 hv1 => ?_)
            obtain ⟨r2, ba, gb, X, Y, hf2, hB, hgb, hXi, hYi, rfl, rfl⟩ := hv1
            generalize hC : cu_mk (cu_ac 1000000 10 ne ad ba (cs_L na (cc m) ne ad s) X Y) na = C
            have hClt : C < 2 ^ 12 := by
              have h1 := cu_mk_lt (cu_ac 1000000 10 ne ad ba (cs_L na (cc m) ne ad s) X Y) na
              have h2 := Nat.pow_le_pow_right (n := 2) (by decide) hna
              omega
            refine zd_iast E (pc := 62) d_U_collect_62 21 rfl (t0 := 0) rfl (m) (rfl) ((by omega)) (by decide) (ws1 := wd k q v1 (va_up r2 21 (upd (r2 21) m (nI C))) ex) rfl ?_
            refine zd_aload_n E (pc := 63) d_U_collect_63 rfl ?_
            refine zd_iload_n E (pc := 64) d_U_collect_64 rfl ?_
            refine zd_iconst E (pc := 65) (v := (nI 1)) d_U_collect_65 (by decide) ?_
            refine zd_iadd E (pc := 66) d_U_collect_66 ?_
            rw [nI_add]
            refine zd_put E (pc := 67) d_U_collect_67 kp_U_40 18 rfl (Nat.le_of_ble_eq_true rfl) (ws1 := wd k q (upd v1 7 (nI (m + 1))) (va_up r2 21 (upd (r2 21) m (nI C))) ex) rfl ?_
            refine zd_aload_n E (pc := 70) d_U_collect_70 rfl ?_
            refine zd_dup E (pc := 71) d_U_collect_71 rfl ?_
            refine zd_get E (pc := 72) d_U_collect_72 kf_U_44 18 rfl rfl ?_
            show Z (wd k q (upd v1 7 (nI (m + 1))) (va_up r2 21 (upd (r2 21) m (nI C))) ex) _ 75 [.int (v1 8), .ref (q 18)]
            rw [h8]
            refine zd_aload_n E (pc := 75) d_U_collect_75 rfl ?_
            refine zd_aload_n E (pc := 76) d_U_collect_76 rfl ?_
            refine zd_get E (pc := 77) d_U_collect_77 kf_U_18 18 rfl rfl ?_
            refine zd_iload_n E (pc := 80) d_U_collect_80 rfl ?_
            refine zd_iald E (pc := 81) d_U_collect_81 21 rfl (t0 := 0) rfl (m) (rfl) ((by omega)) (by decide) ?_
            show Z (wd k q (upd v1 7 (nI (m + 1))) (va_up r2 21 (upd (r2 21) m (nI C))) ex) _ 82 [.int (upd (r2 21) m (nI C) m), .ref (q 18), .int (nI (lm_sum pp m)), .ref (q 18)]
            rw [pk_us]
            have h19b : ∀ i, i < 12 → (va_up r2 21 (upd (r2 21) m (nI C))) 19 i = nI (cc m i) ∧ cc m i ≤ 9 := fun i hi => by
              rw [va_up_ne _ _ (by decide), hf2 19 (by decide)]
              exact h19 i hi
            refine zd_callV E (pc := 82) d_U_collect_82 kc_U_55 rfl ki_U_pay ke_U_pay 18 rfl rfl (c_U_pay l D (v := upd v1 7 (nI (m + 1))) (r := va_up r2 21 (upd (r2 21) m (nI C))) (na := na) (show C < 2 ^ 31 by omega) t1.hna.1 hna h19b) (by decide) rfl (Nat.le_of_ble_eq_true rfl) (fun v1 ws1 hv1 => ?_)
            obtain ⟨r3, hf3, h193, rfl, rfl⟩ := hv1
            refine zd_iadd E (pc := 85) d_U_collect_85 ?_
            rw [nI_add]
            refine zd_put E (pc := 86) d_U_collect_86 kp_U_44 18 rfl (Nat.le_of_ble_eq_true rfl) (ws1 := wd k q (upd (upd v1 7 (nI (m + 1))) 8 (nI (lm_sum pp m + lm_min (cc m) C na))) r3 ex) rfl ?_
            refine zd_aload_n E (pc := 89) d_U_collect_89 rfl ?_
            refine zd_iload_n E (pc := 90) d_U_collect_90 rfl ?_
            have hp9 := lm_min_9 (cc m) C na
            have t3 : tk_C (upd (upd v1 7 (nI (m + 1))) 8 (nI (lm_sum pp m + lm_min (cc m) C na))) r3 nf na fi go co ne ad dr := t1.fr (fun i hi => by rw [pk_un (by omega), pk_un (by omega)]) (by rw [hf3 2 (by decide), va_up_ne _ _ (by decide), hf2 2 (by decide)]) (by rw [hf3 4 (by decide), va_up_ne _ _ (by decide), hf2 4 (by decide)]) (by rw [hf3 5 (by decide), va_up_ne _ _ (by decide), hf2 5 (by decide)]) (by rw [hf3 6 (by decide), va_up_ne _ _ (by decide), hf2 6 (by decide)])
            have h19c : ∀ i, i < 12 → r3 19 i = nI (cs_pay na (cc m) C (lm_min (cc m) C na) i) ∧ cs_pay na (cc m) C (lm_min (cc m) C na) i ≤ 9 := fun i hi => by
              refine ⟨h193 i hi, ?_⟩
              have := (h19 i hi).2
              unfold cs_pay lm_pay
              split
              · split <;> omega
              · exact this
            refine zd_callV E (pc := 91) d_U_collect_91 kc_U_47 rfl ki_U_goalHeight ke_U_goalHeight 18 rfl rfl (c_U_goalHeight l D t3 hs h19c) (by decide) rfl (Nat.le_of_ble_eq_true rfl) (fun v1 ws1 hv1 => ?_)
            obtain ⟨r4, hf4, h174, rfl, rfl⟩ := hv1
            refine zd_istore_n E (pc := 94) d_U_collect_94 (by decide) ?_
            refine zd_iinc E (pc := 95) d_U_collect_95 rfl (bm_inc m) (by decide) ?_
            refine zd_goto E (pc := 98) 36 d_U_collect_98 (by decide) ?_
            have hcc : ∀ j, j ≤ m → va_up cc (m + 1) (cs_pay na (cc m) C (lm_min (cc m) C na)) j = cc j := fun j hj => va_up_ne _ _ (by omega)
            have hccm : va_up cc (m + 1) (cs_pay na (cc m) C (lm_min (cc m) C na)) (m + 1) = cs_pay na (cc m) C (lm_min (cc m) C na) := va_up_self _ _ _
            have hpp : ∀ j, j < m → va_up pp m (lm_min (cc m) C na) j = pp j := fun j hj => va_up_ne _ _ (by omega)
            have hsum : lm_sum (va_up pp m (lm_min (cc m) C na)) (m + 1) = lm_sum pp m + lm_min (cc m) C na := by
              have e1 : ∀ n, n ≤ m → lm_sum (va_up pp m (lm_min (cc m) C na)) n = lm_sum pp n := fun n => by
                induction n with
                | zero => intro _; rfl
                | succ n ihn => intro hn; rw [lm_sum, lm_sum, ihn (by omega), hpp n (by omega)]
              rw [lm_sum, e1 m (Nat.le_refl _), va_up_self]
            have key := ih (m + 1) (upd (upd v1 7 (nI (m + 1))) 8 (nI (lm_sum pp m + lm_min (cc m) C na))) r4 (va_up cc (m + 1) (cs_pay na (cc m) C (lm_min (cc m) C na))) (va_up CC m C) (va_up pp m (lm_min (cc m) C na)) (by omega)
              (fun i a b => by rw [pk_un b, pk_un a]; exact hfv i a b)
              (fun i a b c e => by rw [hf4 i a, hf3 i b, va_up_ne _ _ e, hf2 i c]; exact hfr i a b c e)
              ⟨by rw [hcc 0 (by omega)]; exact hrun.1, fun j hj => by
                by_cases e : j = m
                · subst e
                  rw [hcc j (Nat.le_refl _), hccm, va_up_self, va_up_self]
                  exact ⟨hG0, hq2, ⟨ba, gb, X, Y, hB, hgb, hXi, hYi, hC.symm⟩, rfl, rfl⟩
                · rw [hcc j (by omega), hcc (j + 1) (by omega), va_up_ne _ _ e, va_up_ne _ _ e]
                  exact hrun.2 j (by omega)⟩
              (by rw [pk_un (by decide), pk_us])
              (fun j hj => by
                rw [hf4 21 (by decide), hf3 21 (by decide), va_up_self]
                by_cases e : j = m
                · subst e; rw [pk_us, va_up_self]
                · rw [pk_un e, va_up_ne _ _ e, hf2 21 (by decide)]; exact h21 j (by omega))
              (by rw [pk_us, hsum])
              (fun i hi => by rw [hccm, hf4 19 (by decide)]; exact h19c i hi)
              (fun j hj => by rw [hccm]; exact h174 j hj)
            rw [hccm] at key
            exact key
  refine zd_aload_n E (pc := 0) d_U_collect_0 rfl ?_
  refine zd_get E (pc := 1) d_U_collect_1 kf_U_21 18 rfl rfl ?_
  refine zd_get E (pc := 4) d_U_collect_4 kf_U_29 1 rfl rfl ?_
  refine zd_iconst E (pc := 7) (v := (nI 0)) d_U_collect_7 (by decide) ?_
  refine zd_aload_n E (pc := 8) d_U_collect_8 rfl ?_
  refine zd_get E (pc := 9) d_U_collect_9 kf_U_9 18 rfl rfl ?_
  refine zd_iconst E (pc := 12) (v := (nI 0)) d_U_collect_12 (by decide) ?_
  refine zd_bipush E (pc := 13) (v := (nI 12)) d_U_collect_13 (by decide) ?_
  refine zd_copy E (pc := 15) d_U_collect_15 kz_link kz_native kz_static kz_init 2 19 rfl rfl (t0 := 0) rfl (by decide) (by decide) (Nat.le_of_ble_eq_true rfl) (ws1 := wd k q v (va_up r 19 (va_cpy (r 2) (r 19) 0 0 12)) ex) rfl ?_
  refine zd_aload_n E (pc := 18) d_U_collect_18 rfl ?_
  refine zd_iconst E (pc := 19) (v := (nI 0)) d_U_collect_19 (by decide) ?_
  refine zd_put E (pc := 20) d_U_collect_20 kp_U_40 18 rfl (Nat.le_of_ble_eq_true rfl) (ws1 := wd k q (upd v 7 (nI 0)) (va_up r 19 (va_cpy (r 2) (r 19) 0 0 12)) ex) rfl ?_
  refine zd_aload_n E (pc := 23) d_U_collect_23 rfl ?_
  refine zd_iconst E (pc := 24) (v := (nI 0)) d_U_collect_24 (by decide) ?_
  refine zd_put E (pc := 25) d_U_collect_25 kp_U_44 18 rfl (Nat.le_of_ble_eq_true rfl) (ws1 := wd k q (upd (upd v 7 (nI 0)) 8 (nI 0)) (va_up r 19 (va_cpy (r 2) (r 19) 0 0 12)) ex) rfl ?_
  refine zd_aload_n E (pc := 28) d_U_collect_28 rfl ?_
  refine zd_iload_n E (pc := 29) d_U_collect_29 rfl ?_
  have t0 : tk_C (upd (upd v 7 (nI 0)) 8 (nI 0)) (va_up r 19 (va_cpy (r 2) (r 19) 0 0 12)) nf na fi go co ne ad dr := t.fr (fun i hi => by rw [pk_un (by omega), pk_un (by omega)]) rfl rfl rfl rfl
  have h19 : ∀ i, i < 12 → va_up r 19 (va_cpy (r 2) (r 19) 0 0 12) 19 i = nI (co i) ∧ co i ≤ 9 := fun i hi => by
    rw [va_up_self, sb_cpy0 hi]
    exact t.hco i hi
  refine zd_callV E (pc := 30) d_U_collect_30 kc_U_47 rfl ki_U_goalHeight ke_U_goalHeight 18 rfl rfl (c_U_goalHeight l D t0 hs h19) (by decide) rfl (Nat.le_of_ble_eq_true rfl) (fun v1 ws1 hv1 => ?_)
  obtain ⟨r1, hf1, h171, rfl, rfl⟩ := hv1
  refine zd_istore_n E (pc := 33) d_U_collect_33 (by decide) ?_
  refine zd_iconst E (pc := 34) (v := (nI 0)) d_U_collect_34 (by decide) ?_
  refine zd_istore_n E (pc := 35) d_U_collect_35 (by decide) ?_
  exact loop 12 0 (upd (upd v 7 (nI 0)) 8 (nI 0)) r1 (fun _ => co) (fun _ => 0) (fun _ => 0) rfl (fun i a b => by rw [pk_un b, pk_un a]) (fun i a b c e => by rw [hf1 i a, va_up_ne _ _ b]) ⟨rfl, fun j hj => by omega⟩ (by rw [pk_un (by decide), pk_us]) (fun j hj => by omega) pk_us (fun i hi => by rw [hf1 19 (by decide)]; exact h19 i hi) h171
end AC
end
section
/-! Contracts of the class's methods, where they don't refuse: the task's writes, and what each call answers and does. -/
section PB
variable {k : Nat → ClassId} {q : Nat → Nat} {v : Nat → Int32} {r : Nat → Nat → Int32} {ex : va_W} {nf na fi go : Nat} {co ne ad dr : Nat → Nat}
set_option maxRecDepth 100000 in
set_option maxHeartbeats 4000000 in
theorem c_T_newFact (l : Launch) (D : va_G) {b1 b2 : Bool} (t : tk_C v r nf na fi go co ne ad dr) : zd_Ct l D classes (wd_ty k) gd_T y_T_newFact b_T_newFact 4 (some .int) (zd_rm 0) [.ref (q 1), .int (nI (bm_b b1)), .int (nI (bm_b b2))] (wd k q v r ex)
    (fun v1 w1 => ∃ v2 : Nat → Int32, (∀ i, i ≠ 0 → i ≠ 2 → i ≠ 3 → v2 i = v i) ∧ v2 0 = nI (nf + 1) ∧ v2 2 = nI (if b1 = true then fi ||| 2 ^ nf else fi) ∧ v2 3 = nI (if b2 = true then go ||| 2 ^ nf else go) ∧ v1 = some (.int (nI nf)) ∧ w1 = wd k q v2 r ex) := by
  refine zd_met gd_all (by decide) rfl (Nat.le_of_ble_eq_true rfl) (fun Z E => ?_)
  show Z (wd k q v r ex) [some (.ref (q 1)), some (.int (nI (bm_b b1))), some (.int (nI (bm_b b2))), none] 0 []
  obtain ⟨⟨h0, h1, h2, h3⟩, -, ⟨hnf, -⟩, -⟩ := t
  have p3 : ∀ v2 : Nat → Int32, (∀ i, i ≠ 0 → i ≠ 2 → i ≠ 3 → v2 i = v i) → v2 0 = nI nf → v2 2 = nI (if b1 = true then fi ||| 2 ^ nf else fi) → v2 3 = nI (if b2 = true then go ||| 2 ^ nf else go) → Z (wd k q v2 r ex) [some (.ref (q 1)), some (.int (nI (bm_b b1))), some (.int (nI (bm_b b2))), some (.int (nI nf))] 37 [] := by
    intro v2 hf g0 g2 g3
    refine zd_aload_n E (pc := 37) d_T_newFact_37 rfl ?_
    refine zd_dup E (pc := 38) d_T_newFact_38 rfl ?_
    refine zd_get E (pc := 39) d_T_newFact_39 kf_T_20 1 rfl rfl ?_
    rw [g0]
    refine zd_iconst E (pc := 42) (v := (nI 1)) d_T_newFact_42 (by decide) ?_
    refine zd_iadd E (pc := 43) d_T_newFact_43 ?_
    rw [nI_add]
    refine zd_put E (pc := 44) d_T_newFact_44 kp_T_20 1 rfl (Nat.le_of_ble_eq_true rfl) (ws1 := wd k q (upd v2 0 (nI (nf + 1))) r ex) rfl ?_
    refine zd_iload_n E (pc := 47) d_T_newFact_47 rfl ?_
    exact zd_iret E (pc := 48) d_T_newFact_48 ⟨upd v2 0 (nI (nf + 1)), fun i a b c => by rw [pk_un a]; exact hf i a b c, pk_us, by rw [pk_un (by decide)]; exact g2, by rw [pk_un (by decide)]; exact g3, rfl, rfl⟩
  have p2 : ∀ v2 : Nat → Int32, (∀ i, i ≠ 0 → i ≠ 2 → i ≠ 3 → v2 i = v i) → v2 0 = nI nf → v2 2 = nI (if b1 = true then fi ||| 2 ^ nf else fi) → v2 3 = nI go → Z (wd k q v2 r ex) [some (.ref (q 1)), some (.int (nI (bm_b b1))), some (.int (nI (bm_b b2))), some (.int (nI nf))] 21 [] := by
    intro v2 hf g0 g2 g3
    refine zd_iload_n E (pc := 21) d_T_newFact_21 rfl ?_
    refine zd_bf_eq E (pc := 22) 37 d_T_newFact_22 (by decide) (fun hb => ?_) (fun hb => ?_)
    · exact p3 v2 hf g0 g2 (by rw [if_neg hb]; exact g3)
    · refine zd_aload_n E (pc := 25) d_T_newFact_25 rfl ?_
      refine zd_dup E (pc := 26) d_T_newFact_26 rfl ?_
      refine zd_get E (pc := 27) d_T_newFact_27 kf_T_27 1 rfl rfl ?_
      rw [g3]
      refine zd_iconst E (pc := 30) (v := (nI 1)) d_T_newFact_30 (by decide) ?_
      refine zd_iload_n E (pc := 31) d_T_newFact_31 rfl ?_
      refine zd_ishl E (pc := 32) d_T_newFact_32 ?_
      rw [bm_one (by omega)]
      refine zd_ior E (pc := 33) d_T_newFact_33 ?_
      rw [bm_or]
      refine zd_put E (pc := 34) d_T_newFact_34 kp_T_27 1 rfl (Nat.le_of_ble_eq_true rfl) (ws1 := wd k q (upd v2 3 (nI (go ||| 2 ^ nf))) r ex) rfl ?_
      exact p3 _ (fun i a b c => by rw [pk_un c]; exact hf i a b c) (by rw [pk_un (by decide)]; exact g0) (by rw [pk_un (by decide)]; exact g2) (by rw [pk_us, if_pos hb])
  refine zd_aload_n E (pc := 0) d_T_newFact_0 rfl ?_
  refine zd_get E (pc := 1) d_T_newFact_1 kf_T_20 1 rfl rfl ?_
  rw [h0]
  refine zd_istore_n E (pc := 4) d_T_newFact_4 (by decide) ?_
  refine zd_iload_n E (pc := 5) d_T_newFact_5 rfl ?_
  refine zd_bf_eq E (pc := 6) 21 d_T_newFact_6 (by decide) (fun hb => ?_) (fun hb => ?_)
  · exact p2 v (fun _ _ _ _ => rfl) h0 (by rw [if_neg hb]; exact h2) h3
  · refine zd_aload_n E (pc := 9) d_T_newFact_9 rfl ?_
    refine zd_dup E (pc := 10) d_T_newFact_10 rfl ?_
    refine zd_get E (pc := 11) d_T_newFact_11 kf_T_24 1 rfl rfl ?_
    rw [h2]
    refine zd_iconst E (pc := 14) (v := (nI 1)) d_T_newFact_14 (by decide) ?_
    refine zd_iload_n E (pc := 15) d_T_newFact_15 rfl ?_
    refine zd_ishl E (pc := 16) d_T_newFact_16 ?_
    rw [bm_one (by omega)]
    refine zd_ior E (pc := 17) d_T_newFact_17 ?_
    rw [bm_or]
    refine zd_put E (pc := 18) d_T_newFact_18 kp_T_24 1 rfl (Nat.le_of_ble_eq_true rfl) (ws1 := wd k q (upd v 2 (nI (fi ||| 2 ^ nf))) r ex) rfl ?_
    exact p2 _ (fun i a b c => pk_un b) (by rw [pk_un (by decide)]; exact h0) (by rw [pk_us, if_pos hb]) (by rw [pk_un (by decide)]; exact h3)
set_option maxRecDepth 100000 in
set_option maxHeartbeats 4000000 in
theorem c_T_newAction (l : Launch) (D : va_G) {p : Nat} (t : tk_C v r nf na fi go co ne ad dr) (hn : na < 12) : zd_Ct l D classes (wd_ty k) gd_T y_T_newAction b_T_newAction 3 (some .int) (zd_rm 0) [.ref (q 1), .int (nI p)] (wd k q v r ex) (zd_is (some (.int (nI na))) (wd k q (upd v 1 (nI (na + 1))) (va_up r 2 (upd (r 2) na (nI p))) ex)) := by
  refine zd_met gd_all (by decide) rfl (Nat.le_of_ble_eq_true rfl) (fun Z E => ?_)
  show Z (wd k q v r ex) [some (.ref (q 1)), some (.int (nI p)), none] 0 []
  have h1 := t.hna.1
  refine zd_aload_n E (pc := 0) d_T_newAction_0 rfl ?_
  refine zd_get E (pc := 1) d_T_newAction_1 kf_T_30 1 rfl rfl ?_
  rw [h1]
  refine zd_istore_n E (pc := 4) d_T_newAction_4 (by decide) ?_
  refine zd_aload_n E (pc := 5) d_T_newAction_5 rfl ?_
  refine zd_get E (pc := 6) d_T_newAction_6 kf_T_9 1 rfl rfl ?_
  refine zd_iload_n E (pc := 9) d_T_newAction_9 rfl ?_
  refine zd_iload_n E (pc := 10) d_T_newAction_10 rfl ?_
  refine zd_iast E (pc := 11) d_T_newAction_11 2 rfl (t0 := 0) rfl (na) (rfl) (hn) (by decide) (ws1 := wd k q v (va_up r 2 (upd (r 2) na (nI p))) ex) rfl ?_
  refine zd_aload_n E (pc := 12) d_T_newAction_12 rfl ?_
  refine zd_dup E (pc := 13) d_T_newAction_13 rfl ?_
  refine zd_get E (pc := 14) d_T_newAction_14 kf_T_30 1 rfl rfl ?_
  rw [h1]
  refine zd_iconst E (pc := 17) (v := (nI 1)) d_T_newAction_17 (by decide) ?_
  refine zd_iadd E (pc := 18) d_T_newAction_18 ?_
  rw [nI_add]
  refine zd_put E (pc := 19) d_T_newAction_19 kp_T_30 1 rfl (Nat.le_of_ble_eq_true rfl) (ws1 := wd k q (upd v 1 (nI (na + 1))) (va_up r 2 (upd (r 2) na (nI p))) ex) rfl ?_
  refine zd_iload_n E (pc := 22) d_T_newAction_22 rfl ?_
  exact zd_iret E (pc := 23) d_T_newAction_23 ⟨rfl, rfl⟩
set_option maxRecDepth 100000 in
set_option maxHeartbeats 4000000 in
theorem c_T_addersOf (l : Launch) (D : va_G) {f : Nat} (t : tk_C v r nf na fi go co ne ad dr) (hf : f < 32) : zd_Ct l D classes (wd_ty k) gd_T y_T_addersOf b_T_addersOf 4 (some .int) (zd_rm 1) [.ref (q 1), .int (nI f)] (wd k q v r ex) (zd_is (some (.int (nI (cu_mk (fun a => (ad a).testBit f) na)))) (wd k q v r ex)) := by
  refine zd_met gd_all (by decide) rfl (Nat.le_of_ble_eq_true rfl) (fun Z E => ?_)
  show Z (wd k q v r ex) [some (.ref (q 1)), some (.int (nI f)), none, none] 0 []
  have hna := t.hna.2
  have loop : ∀ (m a : Nat), a + m = na → Z (wd k q v r ex) [some (.ref (q 1)), some (.int (nI f)), some (.int (nI (cu_mk (fun a => (ad a).testBit f) a))), some (.int (nI a))] 4 [] := by
    intro m
    induction m with
    | zero =>
      intro a ha
      have e : a = na := by omega
      subst e
      refine zd_iload_n E (pc := 4) d_T_addersOf_4 rfl ?_
      refine zd_aload_n E (pc := 5) d_T_addersOf_5 rfl ?_
      refine zd_get E (pc := 6) d_T_addersOf_6 kf_T_30 1 rfl rfl ?_
      rw [t.hna.1]
      refine zd_nc_ge E (pc := 9) 39 d_T_addersOf_9 (by decide) ((by omega)) ((by omega)) (fun hq => ?_) (fun hq => ?_)
      · refine zd_iload_n E (pc := 39) d_T_addersOf_39 rfl ?_
        exact zd_iret E (pc := 40) d_T_addersOf_40 ⟨rfl, rfl⟩
      · omega
    | succ m ih =>
      intro a ha
      have ha12 : a < 12 := by omega
      obtain ⟨a1, a2⟩ := t.had a ha12
      have tail : ∀ x, x = cu_mk (fun a => (ad a).testBit f) (a + 1) → Z (wd k q v r ex) [some (.ref (q 1)), some (.int (nI f)), some (.int (nI x)), some (.int (nI a))] 33 [] := by
        intro x hx
        subst hx
        refine zd_iinc E (pc := 33) d_T_addersOf_33 rfl (bm_inc a) (by decide) ?_
        refine zd_goto E (pc := 36) 4 d_T_addersOf_36 (by decide) ?_
        exact ih (a + 1) (by omega)
      refine zd_iload_n E (pc := 4) d_T_addersOf_4 rfl ?_
      refine zd_aload_n E (pc := 5) d_T_addersOf_5 rfl ?_
      refine zd_get E (pc := 6) d_T_addersOf_6 kf_T_30 1 rfl rfl ?_
      rw [t.hna.1]
      refine zd_nc_ge E (pc := 9) 39 d_T_addersOf_9 (by decide) ((by omega)) ((by omega)) (fun hq => ?_) (fun hq => ?_)
      · omega
      · refine zd_aload_n E (pc := 12) d_T_addersOf_12 rfl ?_
        refine zd_get E (pc := 13) d_T_addersOf_13 kf_T_17 1 rfl rfl ?_
        refine zd_iconst E (pc := 16) (v := (nI 1)) d_T_addersOf_16 (by decide) ?_
        refine zd_aald E (pc := 17) d_T_addersOf_17 3 rfl (t0 := 2) rfl rfl (1) (rfl) (by decide) (by decide) rfl ?_
        refine zd_iload_n E (pc := 18) d_T_addersOf_18 rfl ?_
        refine zd_iald E (pc := 19) d_T_addersOf_19 5 rfl (t0 := 0) rfl (a) (rfl) (ha12) (by decide) ?_
        rw [a1]
        refine zd_iload_n E (pc := 20) d_T_addersOf_20 rfl ?_
        refine zd_callS E (pc := 21) d_T_addersOf_21 kc_T_37 rfl ks_P_has (c_P_has l D _ _ a2 hf) (by decide) rfl (Nat.le_of_ble_eq_true rfl) (fun v1 ws1 hv1 => ?_)
        obtain ⟨rfl, rfl⟩ := hv1
        refine zd_bf_eq E (pc := 24) 33 d_T_addersOf_24 (by decide) (fun hb => ?_) (fun hb => ?_)
        · exact tail _ (by rw [cu_mk, if_neg hb, Nat.or_zero])
        · refine zd_iload_n E (pc := 27) d_T_addersOf_27 rfl ?_
          refine zd_iconst E (pc := 28) (v := (nI 1)) d_T_addersOf_28 (by decide) ?_
          refine zd_iload_n E (pc := 29) d_T_addersOf_29 rfl ?_
          refine zd_ishl E (pc := 30) d_T_addersOf_30 ?_
          rw [bm_one (by omega)]
          refine zd_ior E (pc := 31) d_T_addersOf_31 ?_
          rw [bm_or]
          refine zd_istore_n E (pc := 32) d_T_addersOf_32 (by decide) ?_
          exact tail _ (by rw [cu_mk, if_pos hb])
  refine zd_iconst E (pc := 0) (v := (nI 0)) d_T_addersOf_0 (by decide) ?_
  refine zd_istore_n E (pc := 1) d_T_addersOf_1 (by decide) ?_
  refine zd_iconst E (pc := 2) (v := (nI 0)) d_T_addersOf_2 (by decide) ?_
  refine zd_istore_n E (pc := 3) d_T_addersOf_3 (by decide) ?_
  exact loop na 0 (by omega)
set_option maxRecDepth 100000 in
set_option maxHeartbeats 4000000 in
theorem c_P_startAnew (l : Launch) (D : va_G) : zd_Ct l D classes (wd_ty k) gd_T y_P_startAnew b_P_startAnew 1 none (zd_rm 1) [.ref (q 0)] (wd k q v r ex) (zd_is none (wd k q (upd (upd v 6 (nI 0)) 9 (v 2)) r ex)) := by
  refine zd_met gd_all (by decide) rfl (Nat.le_of_ble_eq_true rfl) (fun Z E => ?_)
  show Z (wd k q v r ex) [some (.ref (q 0))] 0 []
  refine zd_aload_n E (pc := 0) d_P_startAnew_0 rfl ?_
  refine zd_get E (pc := 1) d_P_startAnew_1 kf_P_34 0 rfl rfl ?_
  refine zd_callV E (pc := 4) d_P_startAnew_4 kc_P_125 rfl ki_R_empty ke_R_empty 14 rfl rfl (c_R_empty14 l D) (by decide) rfl (Nat.le_of_ble_eq_true rfl) (fun v1 ws1 hv1 => ?_)
  obtain ⟨rfl, rfl⟩ := hv1
  refine zd_aload_n E (pc := 7) d_P_startAnew_7 rfl ?_
  refine zd_aload_n E (pc := 8) d_P_startAnew_8 rfl ?_
  refine zd_get E (pc := 9) d_P_startAnew_9 kf_P_12 0 rfl rfl ?_
  refine zd_get E (pc := 12) d_P_startAnew_12 kf_P_106 1 rfl rfl ?_
  show Z (wd k q (upd v 6 (nI 0)) r ex) [some (.ref (q 0))] 15 [.int (v 2), .ref (q 0)]
  refine zd_put E (pc := 15) d_P_startAnew_15 kp_P_53 0 rfl (Nat.le_of_ble_eq_true rfl) (ws1 := wd k q (upd (upd v 6 (nI 0)) 9 (v 2)) r ex) rfl ?_
  exact zd_vret E (pc := 18) d_P_startAnew_18 ⟨rfl, rfl⟩
set_option maxRecDepth 100000 in
set_option maxHeartbeats 4000000 in
theorem c_P_refuseUnknownFact (l : Launch) (D : va_G) {x n : Nat} (hv : v (if "Fact" = "Fact" then 0 else 1) = nI n) (hx : x < n) (hn : n < 100) : zd_Ct l D classes (wd_ty k) gd_T y_P_refuseUnknownFact b_P_refuseUnknownFact 2 none (zd_rm 0) [.ref (q 0), .int (nI x)] (wd k q v r ex) (zd_is none (wd k q v r ex)) := by
  refine zd_met gd_all (by decide) rfl (Nat.le_of_ble_eq_true rfl) (fun Z E => ?_)
  show Z (wd k q v r ex) [some (.ref (q 0)), some (.int (nI x))] 0 []
  refine zd_iload_n E (pc := 0) d_P_refuseUnknownFact_0 rfl ?_
  refine zd_if_lt E (pc := 1) 15 d_P_refuseUnknownFact_1 (by decide) (fun h0 => ?_) (fun h0 => ?_)
  · exact absurd h0 (nI_pos (by omega))
  · refine zd_iload_n E (pc := 4) d_P_refuseUnknownFact_4 rfl ?_
    refine zd_aload_n E (pc := 5) d_P_refuseUnknownFact_5 rfl ?_
    refine zd_get E (pc := 6) d_P_refuseUnknownFact_6 kf_P_12 0 rfl rfl ?_
    refine zd_get E (pc := 9) d_P_refuseUnknownFact_9 kf_P_57 1 rfl rfl ?_
    show Z (wd k q v r ex) [some (.ref (q 0)), some (.int (nI x))] 12 [.int (v (if "Fact" = "Fact" then 0 else 1)), .int (nI x)]
    rw [hv]
    refine zd_nc_lt E (pc := 12) 25 d_P_refuseUnknownFact_12 (by decide) ((by omega)) ((by omega)) (fun hq => ?_) (fun hq => ?_)
    · exact zd_vret E (pc := 25) d_P_refuseUnknownFact_25 ⟨rfl, rfl⟩
    · omega
set_option maxRecDepth 100000 in
set_option maxHeartbeats 4000000 in
theorem c_P_refuseUnknownAction (l : Launch) (D : va_G) {x n : Nat} (hv : v (if "Action" = "Fact" then 0 else 1) = nI n) (hx : x < n) (hn : n < 100) : zd_Ct l D classes (wd_ty k) gd_T y_P_refuseUnknownAction b_P_refuseUnknownAction 2 none (zd_rm 0) [.ref (q 0), .int (nI x)] (wd k q v r ex) (zd_is none (wd k q v r ex)) := by
  refine zd_met gd_all (by decide) rfl (Nat.le_of_ble_eq_true rfl) (fun Z E => ?_)
  show Z (wd k q v r ex) [some (.ref (q 0)), some (.int (nI x))] 0 []
  refine zd_iload_n E (pc := 0) d_P_refuseUnknownAction_0 rfl ?_
  refine zd_if_lt E (pc := 1) 15 d_P_refuseUnknownAction_1 (by decide) (fun h0 => ?_) (fun h0 => ?_)
  · exact absurd h0 (nI_pos (by omega))
  · refine zd_iload_n E (pc := 4) d_P_refuseUnknownAction_4 rfl ?_
    refine zd_aload_n E (pc := 5) d_P_refuseUnknownAction_5 rfl ?_
    refine zd_get E (pc := 6) d_P_refuseUnknownAction_6 kf_P_12 0 rfl rfl ?_
    refine zd_get E (pc := 9) d_P_refuseUnknownAction_9 kf_P_79 1 rfl rfl ?_
    show Z (wd k q v r ex) [some (.ref (q 0)), some (.int (nI x))] 12 [.int (v (if "Action" = "Fact" then 0 else 1)), .int (nI x)]
    rw [hv]
    refine zd_nc_lt E (pc := 12) 25 d_P_refuseUnknownAction_12 (by decide) ((by omega)) ((by omega)) (fun hq => ?_) (fun hq => ?_)
    · exact zd_vret E (pc := 25) d_P_refuseUnknownAction_25 ⟨rfl, rfl⟩
    · omega
set_option maxRecDepth 100000 in
set_option maxHeartbeats 4000000 in
theorem c_P_fact (l : Launch) (D : va_G) {b1 b2 : Bool} (t : tk_C v r nf na fi go co ne ad dr) (hn : nf < 10) : zd_Ct l D classes (wd_ty k) gd_T y_P_fact b_P_fact 4 (some .int) (zd_rm 2) [.ref (q 0), .int (nI (bm_b b1)), .int (nI (bm_b b2))] (wd k q v r ex)
    (fun v1 w1 => ∃ v2 : Nat → Int32, (∀ i, i ≠ 0 → i ≠ 2 → i ≠ 3 → i ≠ 6 → i ≠ 9 → v2 i = v i) ∧ v2 0 = nI (nf + 1) ∧ v2 2 = nI (if b1 = true then fi ||| 2 ^ nf else fi) ∧ v2 3 = nI (if b2 = true then go ||| 2 ^ nf else go) ∧ v2 6 = nI 0 ∧ v2 9 = nI (if b1 = true then fi ||| 2 ^ nf else fi) ∧ v1 = some (.int (nI nf)) ∧ w1 = wd k q v2 r ex) := by
  refine zd_met gd_all (by decide) rfl (Nat.le_of_ble_eq_true rfl) (fun Z E => ?_)
  show Z (wd k q v r ex) [some (.ref (q 0)), some (.int (nI (bm_b b1))), some (.int (nI (bm_b b2))), none] 0 []
  have h0 := t.1.1
  refine zd_aload_n E (pc := 0) d_P_fact_0 rfl ?_
  refine zd_get E (pc := 1) d_P_fact_1 kf_P_12 0 rfl rfl ?_
  refine zd_get E (pc := 4) d_P_fact_4 kf_P_57 1 rfl rfl ?_
  rw [h0]
  refine zd_bipush E (pc := 7) (v := (nI 10)) d_P_fact_7 (by decide) ?_
  refine zd_nc_lt E (pc := 9) 22 d_P_fact_9 (by decide) ((by omega)) ((by omega)) (fun hq => ?_) (fun hq => ?_)
  · refine zd_aload_n E (pc := 22) d_P_fact_22 rfl ?_
    refine zd_get E (pc := 23) d_P_fact_23 kf_P_12 0 rfl rfl ?_
    refine zd_iload_n E (pc := 26) d_P_fact_26 rfl ?_
    refine zd_iload_n E (pc := 27) d_P_fact_27 rfl ?_
    refine zd_callV E (pc := 28) d_P_fact_28 kc_P_67 rfl ki_T_newFact ke_T_newFact 1 rfl rfl (c_T_newFact l D t) (by decide) rfl (Nat.le_of_ble_eq_true rfl) (fun v1 ws1 hv1 => ?_)
    obtain ⟨v2, hf, g0, g2, g3, rfl, rfl⟩ := hv1
    refine zd_istore_n E (pc := 31) d_P_fact_31 (by decide) ?_
    refine zd_aload_n E (pc := 32) d_P_fact_32 rfl ?_
    refine zd_callV E (pc := 33) d_P_fact_33 kc_P_71 rfl ki_P_startAnew ke_P_startAnew 0 rfl rfl (c_P_startAnew l D) (by decide) rfl (Nat.le_of_ble_eq_true rfl) (fun v1 ws1 hv1 => ?_)
    obtain ⟨rfl, rfl⟩ := hv1
    refine zd_iload_n E (pc := 36) d_P_fact_36 rfl ?_
    exact zd_iret E (pc := 37) d_P_fact_37 ⟨upd (upd v2 6 (nI 0)) 9 (v2 2), fun i a b c d e => by rw [pk_un e, pk_un d]; exact hf i a b c, by rw [pk_un (by decide), pk_un (by decide)]; exact g0, by rw [pk_un (by decide), pk_un (by decide)]; exact g2, by rw [pk_un (by decide), pk_un (by decide)]; exact g3, by rw [pk_un (by decide), pk_us], by rw [pk_us]; exact g2, rfl, rfl⟩
  · omega
set_option maxRecDepth 100000 in
set_option maxHeartbeats 4000000 in
theorem c_P_action (l : Launch) (D : va_G) {p : Nat} (t : tk_C v r nf na fi go co ne ad dr) (hn : na < 12) (hp1 : 1 ≤ p) (hp9 : p ≤ 9) : zd_Ct l D classes (wd_ty k) gd_T y_P_action b_P_action 3 (some .int) (zd_rm 2) [.ref (q 0), .int (nI p)] (wd k q v r ex)
    (zd_is (some (.int (nI na))) (wd k q (upd (upd (upd v 1 (nI (na + 1))) 6 (nI 0)) 9 (v 2)) (va_up r 2 (upd (r 2) na (nI p))) ex)) := by
  refine zd_met gd_all (by decide) rfl (Nat.le_of_ble_eq_true rfl) (fun Z E => ?_)
  show Z (wd k q v r ex) [some (.ref (q 0)), some (.int (nI p)), none] 0 []
  refine zd_iload_n E (pc := 0) d_P_action_0 rfl ?_
  refine zd_iconst E (pc := 1) (v := (nI 1)) d_P_action_1 (by decide) ?_
  refine zd_nc_lt E (pc := 2) 11 d_P_action_2 (by decide) ((by omega)) ((by omega)) (fun hq => ?_) (fun hq => ?_)
  · omega
  · refine zd_iload_n E (pc := 5) d_P_action_5 rfl ?_
    refine zd_bipush E (pc := 6) (v := (nI 9)) d_P_action_6 (by decide) ?_
    refine zd_nc_le E (pc := 8) 21 d_P_action_8 (by decide) ((by omega)) ((by omega)) (fun hq2 => ?_) (fun hq2 => ?_)
    · refine zd_aload_n E (pc := 21) d_P_action_21 rfl ?_
      refine zd_get E (pc := 22) d_P_action_22 kf_P_12 0 rfl rfl ?_
      refine zd_get E (pc := 25) d_P_action_25 kf_P_79 1 rfl rfl ?_
      rw [t.hna.1]
      refine zd_bipush E (pc := 28) (v := (nI 12)) d_P_action_28 (by decide) ?_
      refine zd_nc_lt E (pc := 30) 43 d_P_action_30 (by decide) ((by omega)) ((by omega)) (fun hq3 => ?_) (fun hq3 => ?_)
      · refine zd_aload_n E (pc := 43) d_P_action_43 rfl ?_
        refine zd_get E (pc := 44) d_P_action_44 kf_P_12 0 rfl rfl ?_
        refine zd_iload_n E (pc := 47) d_P_action_47 rfl ?_
        refine zd_callV E (pc := 48) d_P_action_48 kc_P_84 rfl ki_T_newAction ke_T_newAction 1 rfl rfl (c_T_newAction l D t hn) (by decide) rfl (Nat.le_of_ble_eq_true rfl) (fun v1 ws1 hv1 => ?_)
        obtain ⟨rfl, rfl⟩ := hv1
        refine zd_istore_n E (pc := 51) d_P_action_51 (by decide) ?_
        refine zd_aload_n E (pc := 52) d_P_action_52 rfl ?_
        refine zd_callV E (pc := 53) d_P_action_53 kc_P_71 rfl ki_P_startAnew ke_P_startAnew 0 rfl rfl (c_P_startAnew l D) (by decide) rfl (Nat.le_of_ble_eq_true rfl) (fun v1 ws1 hv1 => ?_)
        obtain ⟨rfl, rfl⟩ := hv1
        refine zd_iload_n E (pc := 56) d_P_action_56 rfl ?_
        exact zd_iret E (pc := 57) d_P_action_57 ⟨rfl, rfl⟩
      · omega
    · omega
set_option maxRecDepth 100000 in
set_option maxHeartbeats 4000000 in
theorem c_P_link0 (l : Launch) (D : va_G) {a f : Nat} {m : Nat → Nat} (t : tk_C v r nf na fi go co ne ad dr) (ha : a < na) (hf : f < nf) (hm : ∀ i, i < 12 → r (4 + 0) i = nI (m i) ∧ m i < 2 ^ 31) (hno : (m a).testBit f = false) : zd_Ct l D classes (wd_ty k) gd_T y_P_link b_P_link 4 none (zd_rm 2) [.ref (q 0), .int (nI 0), .int (nI a), .int (nI f)] (wd k q v r ex)
    (zd_is none (wd k q (upd (upd v 6 (nI 0)) 9 (v 2)) (va_up r (4 + 0) (upd (r (4 + 0)) a (nI (m a ||| 2 ^ f)))) ex)) := by
  refine zd_met gd_all (by decide) rfl (Nat.le_of_ble_eq_true rfl) (fun Z E => ?_)
  show Z (wd k q v r ex) [some (.ref (q 0)), some (.int (nI 0)), some (.int (nI a)), some (.int (nI f))] 0 []
  have hna := t.hna.2
  have hnf := t.2.2.1.1
  obtain ⟨m1, m2⟩ := hm a (by omega)
  refine zd_aload_n E (pc := 0) d_P_link_0 rfl ?_
  refine zd_iload_n E (pc := 1) d_P_link_1 rfl ?_
  refine zd_callV E (pc := 2) d_P_link_2 kc_P_88 rfl ki_P_refuseUnknownAction ke_P_refuseUnknownAction 0 rfl rfl (c_P_refuseUnknownAction l D t.hna.1 ha (by omega)) (by decide) rfl (Nat.le_of_ble_eq_true rfl) (fun v1 ws1 hv1 => ?_)
  obtain ⟨rfl, rfl⟩ := hv1
  refine zd_aload_n E (pc := 5) d_P_link_5 rfl ?_
  refine zd_iload_n E (pc := 6) d_P_link_6 rfl ?_
  refine zd_callV E (pc := 7) d_P_link_7 kc_P_91 rfl ki_P_refuseUnknownFact ke_P_refuseUnknownFact 0 rfl rfl (c_P_refuseUnknownFact l D t.1.1 hf (by omega)) (by decide) rfl (Nat.le_of_ble_eq_true rfl) (fun v1 ws1 hv1 => ?_)
  obtain ⟨rfl, rfl⟩ := hv1
  refine zd_iload_n E (pc := 10) d_P_link_10 rfl ?_
  refine zd_if_lt E (pc := 11) 19 d_P_link_11 (by decide) (fun h0 => ?_) (fun h0 => ?_)
  · exact absurd h0 (by decide)
  · refine zd_iload_n E (pc := 14) d_P_link_14 rfl ?_
    refine zd_iconst E (pc := 15) (v := (nI 3)) d_P_link_15 (by decide) ?_
    refine zd_nc_lt E (pc := 16) 29 d_P_link_16 (by decide) ((by decide)) ((by decide)) (fun hq => ?_) (fun hq => ?_)
    · refine zd_aload_n E (pc := 29) d_P_link_29 rfl ?_
      refine zd_get E (pc := 30) d_P_link_30 kf_P_12 0 rfl rfl ?_
      refine zd_get E (pc := 33) d_P_link_33 kf_P_96 1 rfl rfl ?_
      refine zd_iload_n E (pc := 36) d_P_link_36 rfl ?_
      refine zd_aald E (pc := 37) d_P_link_37 3 rfl (t0 := 2) rfl rfl (0) (rfl) (by decide) (by decide) rfl ?_
      refine zd_iload_n E (pc := 38) d_P_link_38 rfl ?_
      refine zd_iald E (pc := 39) d_P_link_39 4 rfl (t0 := 0) rfl (a) (rfl) ((by omega)) (by decide) ?_
      show Z (wd k q v r ex) _ 40 [.int (r (4 + 0) a)]
      rw [m1]
      refine zd_iload_n E (pc := 40) d_P_link_40 rfl ?_
      refine zd_callS E (pc := 41) d_P_link_41 kc_P_100 rfl ks_P_has (c_P_has l D _ _ m2 (show f < 32 by omega)) (by decide) rfl (Nat.le_of_ble_eq_true rfl) (fun v1 ws1 hv1 => ?_)
      obtain ⟨rfl, rfl⟩ := hv1
      refine zd_bf_eq E (pc := 44) 57 d_P_link_44 (by decide) (fun hb => ?_) (fun hb => ?_)
      · refine zd_aload_n E (pc := 57) d_P_link_57 rfl ?_
        refine zd_get E (pc := 58) d_P_link_58 kf_P_12 0 rfl rfl ?_
        refine zd_get E (pc := 61) d_P_link_61 kf_P_96 1 rfl rfl ?_
        refine zd_iload_n E (pc := 64) d_P_link_64 rfl ?_
        refine zd_aald E (pc := 65) d_P_link_65 3 rfl (t0 := 2) rfl rfl (0) (rfl) (by decide) (by decide) rfl ?_
        refine zd_iload_n E (pc := 66) d_P_link_66 rfl ?_
        refine zd_dup2 E (pc := 67) d_P_link_67 rfl rfl ?_
        refine zd_iald E (pc := 68) d_P_link_68 4 rfl (t0 := 0) rfl (a) (rfl) ((by omega)) (by decide) ?_
        show Z (wd k q v r ex) _ 69 [.int (r (4 + 0) a), .int (nI a), .ref (q (4 + 0))]
        rw [m1]
        refine zd_iconst E (pc := 69) (v := (nI 1)) d_P_link_69 (by decide) ?_
        refine zd_iload_n E (pc := 70) d_P_link_70 rfl ?_
        refine zd_ishl E (pc := 71) d_P_link_71 ?_
        rw [bm_one (by omega)]
        refine zd_ior E (pc := 72) d_P_link_72 ?_
        rw [bm_or]
        refine zd_iast E (pc := 73) d_P_link_73 4 rfl (t0 := 0) rfl (a) (rfl) ((by omega)) (by decide) (ws1 := wd k q v (va_up r (4 + 0) (upd (r (4 + 0)) a (nI (m a ||| 2 ^ f)))) ex) rfl ?_
        refine zd_aload_n E (pc := 74) d_P_link_74 rfl ?_
        refine zd_callV E (pc := 75) d_P_link_75 kc_P_71 rfl ki_P_startAnew ke_P_startAnew 0 rfl rfl (c_P_startAnew l D) (by decide) rfl (Nat.le_of_ble_eq_true rfl) (fun v1 ws1 hv1 => ?_)
        obtain ⟨rfl, rfl⟩ := hv1
        exact zd_vret E (pc := 78) d_P_link_78 ⟨rfl, rfl⟩
      · rw [hno] at hb; cases hb
    · omega
set_option maxRecDepth 100000 in
set_option maxHeartbeats 4000000 in
theorem c_P_link1 (l : Launch) (D : va_G) {a f : Nat} {m : Nat → Nat} (t : tk_C v r nf na fi go co ne ad dr) (ha : a < na) (hf : f < nf) (hm : ∀ i, i < 12 → r (4 + 1) i = nI (m i) ∧ m i < 2 ^ 31) (hno : (m a).testBit f = false) : zd_Ct l D classes (wd_ty k) gd_T y_P_link b_P_link 4 none (zd_rm 2) [.ref (q 0), .int (nI 1), .int (nI a), .int (nI f)] (wd k q v r ex)
    (zd_is none (wd k q (upd (upd v 6 (nI 0)) 9 (v 2)) (va_up r (4 + 1) (upd (r (4 + 1)) a (nI (m a ||| 2 ^ f)))) ex)) := by
  refine zd_met gd_all (by decide) rfl (Nat.le_of_ble_eq_true rfl) (fun Z E => ?_)
  show Z (wd k q v r ex) [some (.ref (q 0)), some (.int (nI 1)), some (.int (nI a)), some (.int (nI f))] 0 []
  have hna := t.hna.2
  have hnf := t.2.2.1.1
  obtain ⟨m1, m2⟩ := hm a (by omega)
  refine zd_aload_n E (pc := 0) d_P_link_0 rfl ?_
  refine zd_iload_n E (pc := 1) d_P_link_1 rfl ?_
  refine zd_callV E (pc := 2) d_P_link_2 kc_P_88 rfl ki_P_refuseUnknownAction ke_P_refuseUnknownAction 0 rfl rfl (c_P_refuseUnknownAction l D t.hna.1 ha (by omega)) (by decide) rfl (Nat.le_of_ble_eq_true rfl) (fun v1 ws1 hv1 => ?_)
  obtain ⟨rfl, rfl⟩ := hv1
  refine zd_aload_n E (pc := 5) d_P_link_5 rfl ?_
  refine zd_iload_n E (pc := 6) d_P_link_6 rfl ?_
  refine zd_callV E (pc := 7) d_P_link_7 kc_P_91 rfl ki_P_refuseUnknownFact ke_P_refuseUnknownFact 0 rfl rfl (c_P_refuseUnknownFact l D t.1.1 hf (by omega)) (by decide) rfl (Nat.le_of_ble_eq_true rfl) (fun v1 ws1 hv1 => ?_)
  obtain ⟨rfl, rfl⟩ := hv1
  refine zd_iload_n E (pc := 10) d_P_link_10 rfl ?_
  refine zd_if_lt E (pc := 11) 19 d_P_link_11 (by decide) (fun h0 => ?_) (fun h0 => ?_)
  · exact absurd h0 (by decide)
  · refine zd_iload_n E (pc := 14) d_P_link_14 rfl ?_
    refine zd_iconst E (pc := 15) (v := (nI 3)) d_P_link_15 (by decide) ?_
    refine zd_nc_lt E (pc := 16) 29 d_P_link_16 (by decide) ((by decide)) ((by decide)) (fun hq => ?_) (fun hq => ?_)
    · refine zd_aload_n E (pc := 29) d_P_link_29 rfl ?_
      refine zd_get E (pc := 30) d_P_link_30 kf_P_12 0 rfl rfl ?_
      refine zd_get E (pc := 33) d_P_link_33 kf_P_96 1 rfl rfl ?_
      refine zd_iload_n E (pc := 36) d_P_link_36 rfl ?_
      refine zd_aald E (pc := 37) d_P_link_37 3 rfl (t0 := 2) rfl rfl (1) (rfl) (by decide) (by decide) rfl ?_
      refine zd_iload_n E (pc := 38) d_P_link_38 rfl ?_
      refine zd_iald E (pc := 39) d_P_link_39 5 rfl (t0 := 0) rfl (a) (rfl) ((by omega)) (by decide) ?_
      show Z (wd k q v r ex) _ 40 [.int (r (4 + 1) a)]
      rw [m1]
      refine zd_iload_n E (pc := 40) d_P_link_40 rfl ?_
      refine zd_callS E (pc := 41) d_P_link_41 kc_P_100 rfl ks_P_has (c_P_has l D _ _ m2 (show f < 32 by omega)) (by decide) rfl (Nat.le_of_ble_eq_true rfl) (fun v1 ws1 hv1 => ?_)
      obtain ⟨rfl, rfl⟩ := hv1
      refine zd_bf_eq E (pc := 44) 57 d_P_link_44 (by decide) (fun hb => ?_) (fun hb => ?_)
      · refine zd_aload_n E (pc := 57) d_P_link_57 rfl ?_
        refine zd_get E (pc := 58) d_P_link_58 kf_P_12 0 rfl rfl ?_
        refine zd_get E (pc := 61) d_P_link_61 kf_P_96 1 rfl rfl ?_
        refine zd_iload_n E (pc := 64) d_P_link_64 rfl ?_
        refine zd_aald E (pc := 65) d_P_link_65 3 rfl (t0 := 2) rfl rfl (1) (rfl) (by decide) (by decide) rfl ?_
        refine zd_iload_n E (pc := 66) d_P_link_66 rfl ?_
        refine zd_dup2 E (pc := 67) d_P_link_67 rfl rfl ?_
        refine zd_iald E (pc := 68) d_P_link_68 5 rfl (t0 := 0) rfl (a) (rfl) ((by omega)) (by decide) ?_
        show Z (wd k q v r ex) _ 69 [.int (r (4 + 1) a), .int (nI a), .ref (q (4 + 1))]
        rw [m1]
        refine zd_iconst E (pc := 69) (v := (nI 1)) d_P_link_69 (by decide) ?_
        refine zd_iload_n E (pc := 70) d_P_link_70 rfl ?_
        refine zd_ishl E (pc := 71) d_P_link_71 ?_
        rw [bm_one (by omega)]
        refine zd_ior E (pc := 72) d_P_link_72 ?_
        rw [bm_or]
        refine zd_iast E (pc := 73) d_P_link_73 5 rfl (t0 := 0) rfl (a) (rfl) ((by omega)) (by decide) (ws1 := wd k q v (va_up r (4 + 1) (upd (r (4 + 1)) a (nI (m a ||| 2 ^ f)))) ex) rfl ?_
        refine zd_aload_n E (pc := 74) d_P_link_74 rfl ?_
        refine zd_callV E (pc := 75) d_P_link_75 kc_P_71 rfl ki_P_startAnew ke_P_startAnew 0 rfl rfl (c_P_startAnew l D) (by decide) rfl (Nat.le_of_ble_eq_true rfl) (fun v1 ws1 hv1 => ?_)
        obtain ⟨rfl, rfl⟩ := hv1
        exact zd_vret E (pc := 78) d_P_link_78 ⟨rfl, rfl⟩
      · rw [hno] at hb; cases hb
    · omega
set_option maxRecDepth 100000 in
set_option maxHeartbeats 4000000 in
theorem c_P_link2 (l : Launch) (D : va_G) {a f : Nat} {m : Nat → Nat} (t : tk_C v r nf na fi go co ne ad dr) (ha : a < na) (hf : f < nf) (hm : ∀ i, i < 12 → r (4 + 2) i = nI (m i) ∧ m i < 2 ^ 31) (hno : (m a).testBit f = false) : zd_Ct l D classes (wd_ty k) gd_T y_P_link b_P_link 4 none (zd_rm 2) [.ref (q 0), .int (nI 2), .int (nI a), .int (nI f)] (wd k q v r ex)
    (zd_is none (wd k q (upd (upd v 6 (nI 0)) 9 (v 2)) (va_up r (4 + 2) (upd (r (4 + 2)) a (nI (m a ||| 2 ^ f)))) ex)) := by
  refine zd_met gd_all (by decide) rfl (Nat.le_of_ble_eq_true rfl) (fun Z E => ?_)
  show Z (wd k q v r ex) [some (.ref (q 0)), some (.int (nI 2)), some (.int (nI a)), some (.int (nI f))] 0 []
  have hna := t.hna.2
  have hnf := t.2.2.1.1
  obtain ⟨m1, m2⟩ := hm a (by omega)
  refine zd_aload_n E (pc := 0) d_P_link_0 rfl ?_
  refine zd_iload_n E (pc := 1) d_P_link_1 rfl ?_
  refine zd_callV E (pc := 2) d_P_link_2 kc_P_88 rfl ki_P_refuseUnknownAction ke_P_refuseUnknownAction 0 rfl rfl (c_P_refuseUnknownAction l D t.hna.1 ha (by omega)) (by decide) rfl (Nat.le_of_ble_eq_true rfl) (fun v1 ws1 hv1 => ?_)
  obtain ⟨rfl, rfl⟩ := hv1
  refine zd_aload_n E (pc := 5) d_P_link_5 rfl ?_
  refine zd_iload_n E (pc := 6) d_P_link_6 rfl ?_
  refine zd_callV E (pc := 7) d_P_link_7 kc_P_91 rfl ki_P_refuseUnknownFact ke_P_refuseUnknownFact 0 rfl rfl (c_P_refuseUnknownFact l D t.1.1 hf (by omega)) (by decide) rfl (Nat.le_of_ble_eq_true rfl) (fun v1 ws1 hv1 => ?_)
  obtain ⟨rfl, rfl⟩ := hv1
  refine zd_iload_n E (pc := 10) d_P_link_10 rfl ?_
  refine zd_if_lt E (pc := 11) 19 d_P_link_11 (by decide) (fun h0 => ?_) (fun h0 => ?_)
  · exact absurd h0 (by decide)
  · refine zd_iload_n E (pc := 14) d_P_link_14 rfl ?_
    refine zd_iconst E (pc := 15) (v := (nI 3)) d_P_link_15 (by decide) ?_
    refine zd_nc_lt E (pc := 16) 29 d_P_link_16 (by decide) ((by decide)) ((by decide)) (fun hq => ?_) (fun hq => ?_)
    · refine zd_aload_n E (pc := 29) d_P_link_29 rfl ?_
      refine zd_get E (pc := 30) d_P_link_30 kf_P_12 0 rfl rfl ?_
      refine zd_get E (pc := 33) d_P_link_33 kf_P_96 1 rfl rfl ?_
      refine zd_iload_n E (pc := 36) d_P_link_36 rfl ?_
      refine zd_aald E (pc := 37) d_P_link_37 3 rfl (t0 := 2) rfl rfl (2) (rfl) (by decide) (by decide) rfl ?_
      refine zd_iload_n E (pc := 38) d_P_link_38 rfl ?_
      refine zd_iald E (pc := 39) d_P_link_39 6 rfl (t0 := 0) rfl (a) (rfl) ((by omega)) (by decide) ?_
      show Z (wd k q v r ex) _ 40 [.int (r (4 + 2) a)]
      rw [m1]
      refine zd_iload_n E (pc := 40) d_P_link_40 rfl ?_
      refine zd_callS E (pc := 41) d_P_link_41 kc_P_100 rfl ks_P_has (c_P_has l D _ _ m2 (show f < 32 by omega)) (by decide) rfl (Nat.le_of_ble_eq_true rfl) (fun v1 ws1 hv1 => ?_)
      obtain ⟨rfl, rfl⟩ := hv1
      refine zd_bf_eq E (pc := 44) 57 d_P_link_44 (by decide) (fun hb => ?_) (fun hb => ?_)
      · refine zd_aload_n E (pc := 57) d_P_link_57 rfl ?_
        refine zd_get E (pc := 58) d_P_link_58 kf_P_12 0 rfl rfl ?_
        refine zd_get E (pc := 61) d_P_link_61 kf_P_96 1 rfl rfl ?_
        refine zd_iload_n E (pc := 64) d_P_link_64 rfl ?_
        refine zd_aald E (pc := 65) d_P_link_65 3 rfl (t0 := 2) rfl rfl (2) (rfl) (by decide) (by decide) rfl ?_
        refine zd_iload_n E (pc := 66) d_P_link_66 rfl ?_
        refine zd_dup2 E (pc := 67) d_P_link_67 rfl rfl ?_
        refine zd_iald E (pc := 68) d_P_link_68 6 rfl (t0 := 0) rfl (a) (rfl) ((by omega)) (by decide) ?_
        show Z (wd k q v r ex) _ 69 [.int (r (4 + 2) a), .int (nI a), .ref (q (4 + 2))]
        rw [m1]
        refine zd_iconst E (pc := 69) (v := (nI 1)) d_P_link_69 (by decide) ?_
        refine zd_iload_n E (pc := 70) d_P_link_70 rfl ?_
        refine zd_ishl E (pc := 71) d_P_link_71 ?_
        rw [bm_one (by omega)]
        refine zd_ior E (pc := 72) d_P_link_72 ?_
        rw [bm_or]
        refine zd_iast E (pc := 73) d_P_link_73 6 rfl (t0 := 0) rfl (a) (rfl) ((by omega)) (by decide) (ws1 := wd k q v (va_up r (4 + 2) (upd (r (4 + 2)) a (nI (m a ||| 2 ^ f)))) ex) rfl ?_
        refine zd_aload_n E (pc := 74) d_P_link_74 rfl ?_
        refine zd_callV E (pc := 75) d_P_link_75 kc_P_71 rfl ki_P_startAnew ke_P_startAnew 0 rfl rfl (c_P_startAnew l D) (by decide) rfl (Nat.le_of_ble_eq_true rfl) (fun v1 ws1 hv1 => ?_)
        obtain ⟨rfl, rfl⟩ := hv1
        exact zd_vret E (pc := 78) d_P_link_78 ⟨rfl, rfl⟩
      · rw [hno] at hb; cases hb
    · omega
set_option maxRecDepth 100000 in
set_option maxHeartbeats 4000000 in
theorem c_P_reset (l : Launch) (D : va_G) : zd_Ct l D classes (wd_ty k) gd_T y_P_reset b_P_reset 1 none (zd_rm 0) [.ref (q 0)] (wd k q v r ex) (zd_is none (wd k q (upd v 9 (v 2)) r ex)) := by
  refine zd_met gd_all (by decide) rfl (Nat.le_of_ble_eq_true rfl) (fun Z E => ?_)
  show Z (wd k q v r ex) [some (.ref (q 0))] 0 []
  refine zd_aload_n E (pc := 0) d_P_reset_0 rfl ?_
  refine zd_aload_n E (pc := 1) d_P_reset_1 rfl ?_
  refine zd_get E (pc := 2) d_P_reset_2 kf_P_12 0 rfl rfl ?_
  refine zd_get E (pc := 5) d_P_reset_5 kf_P_106 1 rfl rfl ?_
  refine zd_put E (pc := 8) d_P_reset_8 kp_P_53 0 rfl (Nat.le_of_ble_eq_true rfl) (ws1 := wd k q (upd v 9 (v 2)) r ex) rfl ?_
  exact zd_vret E (pc := 11) d_P_reset_11 ⟨rfl, rfl⟩
set_option maxRecDepth 100000 in
set_option maxHeartbeats 4000000 in
theorem c_P_holds (l : Launch) (D : va_G) {f s : Nat} (t : tk_C v r nf na fi go co ne ad dr) (hs : v 9 = nI s) (hs2 : s < 1024) (hf : f < nf) : zd_Ct l D classes (wd_ty k) gd_T y_P_holds b_P_holds 2 (some .boolean) (zd_rm 1) [.ref (q 0), .int (nI f)] (wd k q v r ex) (zd_is (some (.int (nI (if s.testBit f = true then 1 else 0)))) (wd k q v r ex)) := by
  refine zd_met gd_all (by decide) rfl (Nat.le_of_ble_eq_true rfl) (fun Z E => ?_)
  show Z (wd k q v r ex) [some (.ref (q 0)), some (.int (nI f))] 0 []
  have hnf := t.2.2.1.1
  refine zd_aload_n E (pc := 0) d_P_holds_0 rfl ?_
  refine zd_iload_n E (pc := 1) d_P_holds_1 rfl ?_
  refine zd_callV E (pc := 2) d_P_holds_2 kc_P_91 rfl ki_P_refuseUnknownFact ke_P_refuseUnknownFact 0 rfl rfl (c_P_refuseUnknownFact l D t.1.1 hf (by omega)) (by decide) rfl (Nat.le_of_ble_eq_true rfl) (fun v1 ws1 hv1 => ?_)
  obtain ⟨rfl, rfl⟩ := hv1
  refine zd_aload_n E (pc := 5) d_P_holds_5 rfl ?_
  refine zd_get E (pc := 6) d_P_holds_6 kf_P_53 0 rfl rfl ?_
  rw [hs]
  refine zd_iload_n E (pc := 9) d_P_holds_9 rfl ?_
  refine zd_callS E (pc := 10) d_P_holds_10 kc_P_100 rfl ks_P_has (c_P_has l D _ _ (show s < 2 ^ 31 by omega) (show f < 32 by omega)) (by decide) rfl (Nat.le_of_ble_eq_true rfl) (fun v1 ws1 hv1 => ?_)
  obtain ⟨rfl, rfl⟩ := hv1
  exact zd_zret E (pc := 13) d_P_holds_13 (by split <;> decide) ⟨rfl, rfl⟩
set_option maxRecDepth 100000 in
set_option maxHeartbeats 4000000 in
theorem c_P_applicable (l : Launch) (D : va_G) {a s : Nat} (t : tk_C v r nf na fi go co ne ad dr) (hs : v 9 = nI s) (ha : a < na) : zd_Ct l D classes (wd_ty k) gd_T y_P_applicable b_P_applicable 2 (some .boolean) (zd_rm 2) [.ref (q 0), .int (nI a)] (wd k q v r ex) (zd_is (some (.int (nI (if s &&& ne a = ne a then 1 else 0)))) (wd k q v r ex)) := by
  refine zd_met gd_all (by decide) rfl (Nat.le_of_ble_eq_true rfl) (fun Z E => ?_)
  show Z (wd k q v r ex) [some (.ref (q 0)), some (.int (nI a))] 0 []
  have hna := t.hna.2
  refine zd_aload_n E (pc := 0) d_P_applicable_0 rfl ?_
  refine zd_iload_n E (pc := 1) d_P_applicable_1 rfl ?_
  refine zd_callV E (pc := 2) d_P_applicable_2 kc_P_88 rfl ki_P_refuseUnknownAction ke_P_refuseUnknownAction 0 rfl rfl (c_P_refuseUnknownAction l D t.hna.1 ha (by omega)) (by decide) rfl (Nat.le_of_ble_eq_true rfl) (fun v1 ws1 hv1 => ?_)
  obtain ⟨rfl, rfl⟩ := hv1
  refine zd_aload_n E (pc := 5) d_P_applicable_5 rfl ?_
  refine zd_get E (pc := 6) d_P_applicable_6 kf_P_12 0 rfl rfl ?_
  refine zd_iload_n E (pc := 9) d_P_applicable_9 rfl ?_
  refine zd_aload_n E (pc := 10) d_P_applicable_10 rfl ?_
  refine zd_get E (pc := 11) d_P_applicable_11 kf_P_53 0 rfl rfl ?_
  rw [hs]
  refine zd_callV E (pc := 14) d_P_applicable_14 kc_P_109 rfl ki_T_allows ke_T_allows 1 rfl rfl (c_T_allows l D (show a < 12 by omega) t.hne) (by decide) rfl (Nat.le_of_ble_eq_true rfl) (fun v1 ws1 hv1 => ?_)
  obtain ⟨rfl, rfl⟩ := hv1
  exact zd_zret E (pc := 17) d_P_applicable_17 (by split <;> decide) ⟨rfl, rfl⟩
set_option maxRecDepth 100000 in
set_option maxHeartbeats 4000000 in
theorem c_P_apply (l : Launch) (D : va_G) {a s : Nat} (t : tk_C v r nf na fi go co ne ad dr) (hs : v 9 = nI s) (ha : a < na) (hcan : s &&& ne a = ne a) : zd_Ct l D classes (wd_ty k) gd_T y_P_apply b_P_apply 2 (some .boolean) (zd_rm 2) [.ref (q 0), .int (nI a)] (wd k q v r ex) (zd_is (some (.int (nI (if tk_af ad dr a s &&& go = go then 1 else 0)))) (wd k q (upd v 9 (nI (tk_af ad dr a s))) r ex)) := by
  refine zd_met gd_all (by decide) rfl (Nat.le_of_ble_eq_true rfl) (fun Z E => ?_)
  show Z (wd k q v r ex) [some (.ref (q 0)), some (.int (nI a))] 0 []
  have hna := t.hna.2
  have ha12 : a < 12 := by omega
  refine zd_aload_n E (pc := 0) d_P_apply_0 rfl ?_
  refine zd_iload_n E (pc := 1) d_P_apply_1 rfl ?_
  refine zd_callV E (pc := 2) d_P_apply_2 kc_P_88 rfl ki_P_refuseUnknownAction ke_P_refuseUnknownAction 0 rfl rfl (c_P_refuseUnknownAction l D t.hna.1 ha (by omega)) (by decide) rfl (Nat.le_of_ble_eq_true rfl) (fun v1 ws1 hv1 => ?_)
  obtain ⟨rfl, rfl⟩ := hv1
  refine zd_aload_n E (pc := 5) d_P_apply_5 rfl ?_
  refine zd_get E (pc := 6) d_P_apply_6 kf_P_12 0 rfl rfl ?_
  refine zd_iload_n E (pc := 9) d_P_apply_9 rfl ?_
  refine zd_aload_n E (pc := 10) d_P_apply_10 rfl ?_
  refine zd_get E (pc := 11) d_P_apply_11 kf_P_53 0 rfl rfl ?_
  rw [hs]
  refine zd_callV E (pc := 14) d_P_apply_14 kc_P_109 rfl ki_T_allows ke_T_allows 1 rfl rfl (c_T_allows l D ha12 t.hne) (by decide) rfl (Nat.le_of_ble_eq_true rfl) (fun v1 ws1 hv1 => ?_)
  obtain ⟨rfl, rfl⟩ := hv1
  refine zd_bf_ne E (pc := 17) 30 d_P_apply_17 (by decide) (fun hb => ?_) (fun hb => ?_)
  · refine zd_aload_n E (pc := 30) d_P_apply_30 rfl ?_
    refine zd_aload_n E (pc := 31) d_P_apply_31 rfl ?_
    refine zd_get E (pc := 32) d_P_apply_32 kf_P_12 0 rfl rfl ?_
    refine zd_iload_n E (pc := 35) d_P_apply_35 rfl ?_
    refine zd_aload_n E (pc := 36) d_P_apply_36 rfl ?_
    refine zd_get E (pc := 37) d_P_apply_37 kf_P_53 0 rfl rfl ?_
    rw [hs]
    refine zd_callV E (pc := 40) d_P_apply_40 kc_P_114 rfl ki_T_after ke_T_after 1 rfl rfl (c_T_after l D ha12 t.had0 t.hdr0) (by decide) rfl (Nat.le_of_ble_eq_true rfl) (fun v1 ws1 hv1 => ?_)
    obtain ⟨rfl, rfl⟩ := hv1
    refine zd_put E (pc := 43) d_P_apply_43 kp_P_53 0 rfl (Nat.le_of_ble_eq_true rfl) (ws1 := wd k q (upd v 9 (nI (tk_af ad dr a s))) r ex) rfl ?_
    refine zd_aload_n E (pc := 46) d_P_apply_46 rfl ?_
    refine zd_get E (pc := 47) d_P_apply_47 kf_P_12 0 rfl rfl ?_
    refine zd_aload_n E (pc := 50) d_P_apply_50 rfl ?_
    refine zd_get E (pc := 51) d_P_apply_51 kf_P_53 0 rfl rfl ?_
    show Z (wd k q (upd v 9 (nI (tk_af ad dr a s))) r ex) _ 54 [.int (nI (tk_af ad dr a s)), .ref (q 1)]
    refine zd_callV E (pc := 54) d_P_apply_54 kc_P_118 rfl ki_T_isMet ke_T_isMet 1 rfl rfl (c_T_isMet l D (v := upd v 9 (nI (tk_af ad dr a s))) t.hgo.1 t.hgo.2) (by decide) rfl (Nat.le_of_ble_eq_true rfl) (fun v1 ws1 hv1 => ?_)
    obtain ⟨rfl, rfl⟩ := hv1
    exact zd_zret E (pc := 57) d_P_apply_57 (by split <;> decide) ⟨rfl, rfl⟩
  · exact absurd hcan hb
end PB
end
section
/-! Contracts of the class's methods: the calls that search, measure and check. -/
/-- what check answers, from the i-th of dl drafted actions on, in the state s; m are left -/
def tk_ck (ne ad dr : Nat → Nat) (go : Nat) (di : Nat → Nat) (dl : Nat) : Nat → Nat → Nat → Int32
  | 0, _, s => if s &&& go = go then -1 else nI dl
  | m + 1, i, s => if s &&& ne (di i) = ne (di i) then tk_ck ne ad dr go di dl m (i + 1) (tk_af ad dr (di i) s) else nI i
/-- a plan, as the cells hold it -/
def pl_ok (v : Nat → Int32) (r : Nat → Nat → Int32) (na go : Nat) (co ne ad dr : Nat → Nat) (s : Nat) (ans : Int32) : Prop :=
  ∃ (n : Nat) (o d : Nat → Nat), gw_ok 1024 na (tk_can ne) (tk_af ad dr) co s n o d ∧ ((∃ i, i < n ∧ tk_met go (o i) = true ∧ (∀ j, j < i → tk_met go (o j) = false) ∧ d i < 20000 ∧ ans = nI (d i) ∧ ∃ (on : Nat → Int) (m : Nat) (p it : Nat → Nat), gw_on n na (tk_can ne) (tk_af ad dr) co (tk_met go) (d i) o d on ∧ gw_way (tk_af ad dr) on s m p it ∧ v 5 = nI m ∧ ∀ j, j < m → r 13 j = nI (it j)) ∨ ((∀ i, i < n → tk_met go (o i) = false) ∧ ans = -1 ∧ v 5 = nI 0))
section P2
variable {k : Nat → ClassId} {q : Nat → Nat} {v : Nat → Int32} {r : Nat → Nat → Int32} {ex : va_W} {nf na fi go : Nat} {co ne ad dr : Nat → Nat}
set_option maxRecDepth 100000 in
set_option maxHeartbeats 4000000 in
theorem c_P_plan (l : Launch) (D : va_G) {s n0 : Nat} {o0 d0 : Nat → Nat} (t : tk_C v r nf na fi go co ne ad dr) (hs : v 9 = nI s) (hs2 : s < 1024) (h : sr_st v r n0 o0 d0) : zd_Ct l D classes (wd_ty k) gd_T y_P_plan b_P_plan 2 (some .int) (zd_rm 4) [.ref (q 0)] (wd k q v r ex)
    (fun v1 w1 => ∃ (v2 : Nat → Int32) (r2 : Nat → Nat → Int32) (ans : Int32), (∀ i, i ≠ 4 → i ≠ 5 → v2 i = v i) ∧ (∀ i, i ≠ 8 → i ≠ 9 → i ≠ 10 → i ≠ 11 → i ≠ 13 → r2 i = r i) ∧ (∃ n o d, sr_st v2 r2 n o d) ∧ pl_ok v2 r2 na go co ne ad dr s ans ∧ v1 = some (.int ans) ∧ w1 = wd k q v2 r2 ex) := by
  refine zd_met gd_all (by decide) rfl (Nat.le_of_ble_eq_true rfl) (fun Z E => ?_)
  show Z (wd k q v r ex) [some (.ref (q 0)), none] 0 []
  refine zd_aload_n E (pc := 0) d_P_plan_0 rfl ?_
  refine zd_get E (pc := 1) d_P_plan_1 kf_P_21 0 rfl rfl ?_
  refine zd_aload_n E (pc := 4) d_P_plan_4 rfl ?_
  refine zd_get E (pc := 5) d_P_plan_5 kf_P_53 0 rfl rfl ?_
  rw [hs]
  refine zd_callV E (pc := 8) d_P_plan_8 kc_P_122 rfl ki_S_explore ke_S_explore 7 rfl rfl (c_S_explore l D t h hs2) (by decide) rfl (Nat.le_of_ble_eq_true rfl) (fun v1 ws1 hv1 => ?_)
  obtain ⟨v1, r1, n, o, d, hf, hst, hok, rfl, rfl⟩ := hv1
  refine zd_aload_n E (pc := 11) d_P_plan_11 rfl ?_
  refine zd_get E (pc := 12) d_P_plan_12 kf_P_30 0 rfl rfl ?_
  refine zd_callV E (pc := 15) d_P_plan_15 kc_P_125 rfl ki_R_empty ke_R_empty 12 rfl rfl (c_R_empty12 l D) (by decide) rfl (Nat.le_of_ble_eq_true rfl) (fun v1 ws1 hv1 => ?_)
  obtain ⟨rfl, rfl⟩ := hv1
  refine zd_aload_n E (pc := 18) d_P_plan_18 rfl ?_
  refine zd_get E (pc := 19) d_P_plan_19 kf_P_21 0 rfl rfl ?_
  have t1 : tk_C (upd v1 5 (nI 0)) r1 nf na fi go co ne ad dr := (hf.tk t).fr (fun i hi => pk_un (by omega)) rfl rfl rfl rfl
  have st1 : sr_st (upd v1 5 (nI 0)) r1 n o d := ⟨by rw [pk_un (by decide)]; exact hst.1, hst.2⟩
  have f9 : v1 9 = nI s := by rw [hf.1 9 (by decide)]; exact hs
  refine zd_callV E (pc := 22) d_P_plan_22 kc_P_128 rfl ki_S_leastToMet ke_S_leastToMet 7 rfl rfl (c_S_leastToMet l D t1 st1) (by decide) rfl (Nat.le_of_ble_eq_true rfl) (fun v1 ws1 hv1 => ?_)
  obtain ⟨hcase, rfl⟩ := hv1
  rcases hcase with ⟨i, hi, hm, hl, rfl⟩ | ⟨hno, rfl⟩
  · have hd := (hst.2.2.2.2.1 i hi).2
    refine zd_istore_n E (pc := 25) d_P_plan_25 (by decide) ?_
    refine zd_iload_n E (pc := 26) d_P_plan_26 rfl ?_
    refine zd_iconst E (pc := 27) (v := (-1)) d_P_plan_27 (by decide) ?_
    refine zd_ic_eq E (pc := 28) 47 d_P_plan_28 (by decide) (fun hq => ?_) (fun hq => ?_)
    · exact absurd hq (bm_m1ne (by omega))
    · refine zd_aload_n E (pc := 31) d_P_plan_31 rfl ?_
      refine zd_get E (pc := 32) d_P_plan_32 kf_P_21 0 rfl rfl ?_
      refine zd_aload_n E (pc := 35) d_P_plan_35 rfl ?_
      refine zd_get E (pc := 36) d_P_plan_36 kf_P_53 0 rfl rfl ?_
      show Z (wd k q (upd v1 5 (nI 0)) r1 ex) _ 39 [.int (v1 9), .ref (q 7)]
      rw [f9]
      refine zd_iload_n E (pc := 39) d_P_plan_39 rfl ?_
      refine zd_aload_n E (pc := 40) d_P_plan_40 rfl ?_
      refine zd_get E (pc := 41) d_P_plan_41 kf_P_30 0 rfl rfl ?_
      refine zd_callV E (pc := 44) d_P_plan_44 kc_P_132 rfl ki_S_writeBest ke_S_writeBest 7 rfl rfl (c_S_writeBest l D t1 st1 hok (show d i < 20000 from hd) pk_us) (by decide) rfl (Nat.le_of_ble_eq_true rfl) (fun v1 ws1 hv1 => ?_)
      obtain ⟨v2, r2, m, p, it, hfv, hfr, hon, hway, h5, h13, rfl, rfl⟩ := hv1
      refine zd_iload_n E (pc := 47) d_P_plan_47 rfl ?_
      exact zd_iret E (pc := 48) d_P_plan_48 ⟨v2, r2, nI (d i), fun j a b => by rw [hfv j b, pk_un b]; exact hf.1 j a, fun j a b c e g => by rw [hfr j c g]; exact hf.2 j a b c e, ⟨n, o, d, by rw [hfv 4 (by decide)]; exact st1.1, st1.2.1, st1.2.2.1, fun j hj => by rw [hfr 8 (by decide) (by decide)]; exact st1.2.2.2.1 j hj, fun j hj => by rw [hfr 9 (by decide) (by decide)]; exact st1.2.2.2.2.1 j hj, fun x hx hne => by rw [hfr 9 (by decide) (by decide)]; exact st1.2.2.2.2.2 x hx hne⟩, ⟨n, o, d, hok, Or.inl ⟨i, hi, hm, hl, hd, rfl, sr_on r2, m, p, it, hon, hway, h5, h13⟩⟩, rfl, rfl⟩
  · refine zd_istore_n E (pc := 25) d_P_plan_25 (by decide) ?_
    refine zd_iload_n E (pc := 26) d_P_plan_26 rfl ?_
    refine zd_iconst E (pc := 27) (v := (-1)) d_P_plan_27 (by decide) ?_
    refine zd_ic_eq E (pc := 28) 47 d_P_plan_28 (by decide) (fun hq => ?_) (fun hq => ?_)
    · refine zd_iload_n E (pc := 47) d_P_plan_47 rfl ?_
      exact zd_iret E (pc := 48) d_P_plan_48 ⟨upd v1 5 (nI 0), r1, -1, fun j a b => by rw [pk_un b]; exact hf.1 j a, fun j a b c e g => hf.2 j a b c e, ⟨n, o, d, st1⟩, ⟨n, o, d, hok, Or.inr ⟨hno, rfl, pk_us⟩⟩, rfl, rfl⟩
    · exact absurd rfl hq
set_option maxRecDepth 100000 in
set_option maxHeartbeats 4000000 in
theorem c_P_length (l : Launch) (D : va_G) : zd_Ct l D classes (wd_ty k) gd_T y_P_length b_P_length 1 (some .int) (zd_rm 0) [.ref (q 0)] (wd k q v r ex) (zd_is (some (.int (v 5))) (wd k q v r ex)) := by
  refine zd_met gd_all (by decide) rfl (Nat.le_of_ble_eq_true rfl) (fun Z E => ?_)
  show Z (wd k q v r ex) [some (.ref (q 0))] 0 []
  refine zd_aload_n E (pc := 0) d_P_length_0 rfl ?_
  refine zd_get E (pc := 1) d_P_length_1 kf_P_30 0 rfl rfl ?_
  refine zd_get E (pc := 4) d_P_length_4 kf_P_136 12 rfl rfl ?_
  exact zd_iret E (pc := 7) d_P_length_7 ⟨rfl, rfl⟩
set_option maxRecDepth 100000 in
set_option maxHeartbeats 4000000 in
theorem c_P_step (l : Launch) (D : va_G) {n : Nat} (x : Int32) (hv : v 5 = nI n) (hn : n ≤ 1023) : zd_Ct l D classes (wd_ty k) gd_T y_P_step b_P_step 2 (some .int) (zd_rm 0) [.ref (q 0), .int x] (wd k q v r ex)
    (fun v1 w1 => ((∃ j, j < n ∧ x = nI j ∧ v1 = some (.int (r 13 j))) ∨ ((x < 0 ∨ nI n ≤ x) ∧ v1 = some (.int (-1)))) ∧ w1 = wd k q v r ex) := by
  refine zd_met gd_all (by decide) rfl (Nat.le_of_ble_eq_true rfl) (fun Z E => ?_)
  show Z (wd k q v r ex) [some (.ref (q 0)), some (.int x)] 0 []
  have out : (x < 0 ∨ nI n ≤ x) → Z (wd k q v r ex) [some (.ref (q 0)), some (.int x)] 15 [] := by
    intro hx
    refine zd_iconst E (pc := 15) (v := (-1)) d_P_step_15 (by decide) ?_
    refine zd_goto E (pc := 16) 28 d_P_step_16 (by decide) ?_
    exact zd_iret E (pc := 28) d_P_step_28 ⟨Or.inr ⟨hx, rfl⟩, rfl⟩
  refine zd_iload_n E (pc := 0) d_P_step_0 rfl ?_
  refine zd_if_lt E (pc := 1) 15 d_P_step_1 (by decide) (fun h0 => ?_) (fun h0 => ?_)
  · exact out (Or.inl h0)
  · refine zd_iload_n E (pc := 4) d_P_step_4 rfl ?_
    refine zd_aload_n E (pc := 5) d_P_step_5 rfl ?_
    refine zd_get E (pc := 6) d_P_step_6 kf_P_30 0 rfl rfl ?_
    refine zd_get E (pc := 9) d_P_step_9 kf_P_136 12 rfl rfl ?_
    rw [hv]
    refine zd_ic_lt E (pc := 12) 19 d_P_step_12 (by decide) (fun h1 => ?_) (fun h1 => ?_)
    · rcases pk_ix x (n := n) (by omega) with z | z | ⟨j, hj, rfl⟩
      · exact absurd z h0
      · exact absurd h1 (by rw [Int32.lt_iff_toInt_lt]; rw [Int32.le_iff_toInt_le] at z; omega)
      · refine zd_aload_n E (pc := 19) d_P_step_19 rfl ?_
        refine zd_get E (pc := 20) d_P_step_20 kf_P_30 0 rfl rfl ?_
        refine zd_get E (pc := 23) d_P_step_23 kf_P_139 12 rfl rfl ?_
        refine zd_iload_n E (pc := 26) d_P_step_26 rfl ?_
        refine zd_iald E (pc := 27) d_P_step_27 13 rfl (t0 := 0) rfl (j) (rfl) ((by omega)) (by decide) ?_
        exact zd_iret E (pc := 28) d_P_step_28 ⟨Or.inl ⟨j, hj, rfl, rfl⟩, rfl⟩
    · refine out (Or.inr ?_)
      rw [Int32.le_iff_toInt_le]; rw [Int32.lt_iff_toInt_lt] at h1; omega
set_option maxRecDepth 100000 in
set_option maxHeartbeats 4000000 in
theorem c_P_states (l : Launch) (D : va_G) {s n0 : Nat} {o0 d0 : Nat → Nat} (t : tk_C v r nf na fi go co ne ad dr) (hs : v 9 = nI s) (hs2 : s < 1024) (h : sr_st v r n0 o0 d0) : zd_Ct l D classes (wd_ty k) gd_T y_P_states b_P_states 1 (some .int) (zd_rm 4) [.ref (q 0)] (wd k q v r ex)
    (fun v1 w1 => ∃ v2 r2 n o d, sr_fr v v2 r r2 ∧ sr_st v2 r2 n o d ∧ gw_ok 1024 na (tk_can ne) (tk_af ad dr) co s n o d ∧ v1 = some (.int (nI n)) ∧ w1 = wd k q v2 r2 ex) := by
  refine zd_met gd_all (by decide) rfl (Nat.le_of_ble_eq_true rfl) (fun Z E => ?_)
  show Z (wd k q v r ex) [some (.ref (q 0))] 0 []
  refine zd_aload_n E (pc := 0) d_P_states_0 rfl ?_
  refine zd_get E (pc := 1) d_P_states_1 kf_P_21 0 rfl rfl ?_
  refine zd_aload_n E (pc := 4) d_P_states_4 rfl ?_
  refine zd_get E (pc := 5) d_P_states_5 kf_P_53 0 rfl rfl ?_
  rw [hs]
  refine zd_callV E (pc := 8) d_P_states_8 kc_P_122 rfl ki_S_explore ke_S_explore 7 rfl rfl (c_S_explore l D t h hs2) (by decide) rfl (Nat.le_of_ble_eq_true rfl) (fun v1 ws1 hv1 => ?_)
  obtain ⟨v1, r1, n, o, d, hf, hst, hok, rfl, rfl⟩ := hv1
  refine zd_aload_n E (pc := 11) d_P_states_11 rfl ?_
  refine zd_get E (pc := 12) d_P_states_12 kf_P_21 0 rfl rfl ?_
  refine zd_get E (pc := 15) d_P_states_15 kf_P_143 7 rfl rfl ?_
  rw [hst.1]
  exact zd_iret E (pc := 18) d_P_states_18 ⟨v1, r1, n, o, d, hf, hst, hok, rfl, rfl⟩
set_option maxRecDepth 100000 in
set_option maxHeartbeats 4000000 in
theorem c_P_together (l : Launch) (D : va_G) {s n0 f g : Nat} {o0 d0 : Nat → Nat} (t : tk_C v r nf na fi go co ne ad dr) (hs : v 9 = nI s) (hs2 : s < 1024) (h : sr_st v r n0 o0 d0) (hf : f < nf) (hg : g < nf) : zd_Ct l D classes (wd_ty k) gd_T y_P_together b_P_together 3 (some .boolean) (zd_rm 4) [.ref (q 0), .int (nI f), .int (nI g)] (wd k q v r ex)
    (fun v1 w1 => ∃ (v2 : Nat → Int32) (r2 : Nat → Nat → Int32) (n : Nat) (o d : Nat → Nat) (b : Bool), sr_fr v v2 r r2 ∧ sr_st v2 r2 n o d ∧ gw_ok 1024 na (tk_can ne) (tk_af ad dr) co s n o d ∧ (b = true ↔ ∃ i, i < n ∧ o i &&& (2 ^ f ||| 2 ^ g) = (2 ^ f ||| 2 ^ g)) ∧ v1 = some (.int (nI (bm_b b))) ∧ w1 = wd k q v2 r2 ex) := by
  refine zd_met gd_all (by decide) rfl (Nat.le_of_ble_eq_true rfl) (fun Z E => ?_)
  show Z (wd k q v r ex) [some (.ref (q 0)), some (.int (nI f)), some (.int (nI g))] 0 []
  have hnf := t.2.2.1.1
  refine zd_aload_n E (pc := 0) d_P_together_0 rfl ?_
  refine zd_iload_n E (pc := 1) d_P_together_1 rfl ?_
  refine zd_callV E (pc := 2) d_P_together_2 kc_P_91 rfl ki_P_refuseUnknownFact ke_P_refuseUnknownFact 0 rfl rfl (c_P_refuseUnknownFact l D t.1.1 hf (by omega)) (by decide) rfl (Nat.le_of_ble_eq_true rfl) (fun v1 ws1 hv1 => ?_)
  obtain ⟨rfl, rfl⟩ := hv1
  refine zd_aload_n E (pc := 5) d_P_together_5 rfl ?_
  refine zd_iload_n E (pc := 6) d_P_together_6 rfl ?_
  refine zd_callV E (pc := 7) d_P_together_7 kc_P_91 rfl ki_P_refuseUnknownFact ke_P_refuseUnknownFact 0 rfl rfl (c_P_refuseUnknownFact l D t.1.1 hg (by omega)) (by decide) rfl (Nat.le_of_ble_eq_true rfl) (fun v1 ws1 hv1 => ?_)
  obtain ⟨rfl, rfl⟩ := hv1
  refine zd_aload_n E (pc := 10) d_P_together_10 rfl ?_
  refine zd_get E (pc := 11) d_P_together_11 kf_P_21 0 rfl rfl ?_
  refine zd_aload_n E (pc := 14) d_P_together_14 rfl ?_
  refine zd_get E (pc := 15) d_P_together_15 kf_P_53 0 rfl rfl ?_
  rw [hs]
  refine zd_callV E (pc := 18) d_P_together_18 kc_P_122 rfl ki_S_explore ke_S_explore 7 rfl rfl (c_S_explore l D t h hs2) (by decide) rfl (Nat.le_of_ble_eq_true rfl) (fun v1 ws1 hv1 => ?_)
  obtain ⟨v1, r1, n, o, d, hfr, hst, hok, rfl, rfl⟩ := hv1
  refine zd_aload_n E (pc := 21) d_P_together_21 rfl ?_
  refine zd_get E (pc := 22) d_P_together_22 kf_P_21 0 rfl rfl ?_
  refine zd_iconst E (pc := 25) (v := (nI 1)) d_P_together_25 (by decide) ?_
  refine zd_iload_n E (pc := 26) d_P_together_26 rfl ?_
  refine zd_ishl E (pc := 27) d_P_together_27 ?_
  rw [bm_one (by omega)]
  refine zd_iconst E (pc := 28) (v := (nI 1)) d_P_together_28 (by decide) ?_
  refine zd_iload_n E (pc := 29) d_P_together_29 rfl ?_
  refine zd_ishl E (pc := 30) d_P_together_30 ?_
  rw [bm_one (by omega)]
  refine zd_ior E (pc := 31) d_P_together_31 ?_
  rw [bm_or]
  have hM : 2 ^ f ||| 2 ^ g < 2 ^ 10 := Nat.or_lt_two_pow (Nat.pow_lt_pow_right (by omega) (by omega)) (Nat.pow_lt_pow_right (by omega) (by omega))
  refine zd_callV E (pc := 32) d_P_together_32 kc_P_146 rfl ki_S_cameTo ke_S_cameTo 7 rfl rfl (c_S_cameTo l D hst (show 2 ^ f ||| 2 ^ g < 2 ^ 31 by omega)) (by decide) rfl (Nat.le_of_ble_eq_true rfl) (fun v1 ws1 hv1 => ?_)
  obtain ⟨b, hb, rfl, rfl⟩ := hv1
  exact zd_zret E (pc := 35) d_P_together_35 (bm_zn b) ⟨v1, r1, n, o, d, b, hfr, hst, hok, hb, rfl, rfl⟩
set_option maxRecDepth 100000 in
set_option maxHeartbeats 4000000 in
theorem c_P_level (l : Launch) (D : va_G) {s f : Nat} {w : Bool} (t : tk_C v r nf na fi go co ne ad dr) (hs : v 9 = nI s) (hs2 : s < 1024) (hf : f < nf) : zd_Ct l D classes (wd_ty k) gd_T y_P_level b_P_level 3 (some .int) (zd_rm 3) [.ref (q 0), .int (nI f), .int (nI (bm_b w))] (wd k q v r ex)
    (fun v1 w1 => ∃ (r2 : Nat → Nat → Int32) (x : Nat), (∀ i, i ≠ 17 → r2 i = r i) ∧ x = lm_it 1000000 w 10 na co ne ad (fun _ => false) (lm_i0 1000000 s) 10 f ∧ v1 = some (.int (if 1000000 ≤ x then -1 else nI x)) ∧ w1 = wd k q v r2 ex) := by
  refine zd_met gd_all (by decide) rfl (Nat.le_of_ble_eq_true rfl) (fun Z E => ?_)
  show Z (wd k q v r ex) [some (.ref (q 0)), some (.int (nI f)), some (.int (nI (bm_b w)))] 0 []
  have hnf := t.2.2.1.1
  have hbar : (fun a => Nat.testBit 0 a) = (fun _ => false) := by funext a; exact Nat.zero_testBit a
  refine zd_aload_n E (pc := 0) d_P_level_0 rfl ?_
  refine zd_iload_n E (pc := 1) d_P_level_1 rfl ?_
  refine zd_callV E (pc := 2) d_P_level_2 kc_P_91 rfl ki_P_refuseUnknownFact ke_P_refuseUnknownFact 0 rfl rfl (c_P_refuseUnknownFact l D t.1.1 hf (by omega)) (by decide) rfl (Nat.le_of_ble_eq_true rfl) (fun v1 ws1 hv1 => ?_)
  obtain ⟨rfl, rfl⟩ := hv1
  refine zd_aload_n E (pc := 5) d_P_level_5 rfl ?_
  refine zd_get E (pc := 6) d_P_level_6 kf_P_40 0 rfl rfl ?_
  refine zd_aload_n E (pc := 9) d_P_level_9 rfl ?_
  refine zd_get E (pc := 10) d_P_level_10 kf_P_53 0 rfl rfl ?_
  rw [hs]
  refine zd_aload_n E (pc := 13) d_P_level_13 rfl ?_
  refine zd_get E (pc := 14) d_P_level_14 kf_P_12 0 rfl rfl ?_
  refine zd_get E (pc := 17) d_P_level_17 kf_P_149 1 rfl rfl ?_
  refine zd_iload_n E (pc := 20) d_P_level_20 rfl ?_
  refine zd_iconst E (pc := 21) (v := (nI 0)) d_P_level_21 (by decide) ?_
  refine zd_callV E (pc := 22) d_P_level_22 kc_P_152 rfl ki_V_measure ke_V_measure 16 rfl rfl (c_V_measure2 l D (w := w) (show s < 2 ^ 31 by omega) (show 0 < 2 ^ 31 by decide) t.hna.1 t.hna.2 t.hco t.hne t.had) (by decide) rfl (Nat.le_of_ble_eq_true rfl) (fun v1 ws1 hv1 => ?_)
  obtain ⟨r1, hf1, hr1, rfl, rfl⟩ := hv1
  rw [hbar] at hr1
  refine zd_aload_n E (pc := 25) d_P_level_25 rfl ?_
  refine zd_get E (pc := 26) d_P_level_26 kf_P_40 0 rfl rfl ?_
  refine zd_get E (pc := 29) d_P_level_29 kf_P_156 16 rfl rfl ?_
  refine zd_iload_n E (pc := 32) d_P_level_32 rfl ?_
  refine zd_iald E (pc := 33) d_P_level_33 17 rfl (t0 := 0) rfl (f) (rfl) ((by omega)) (by decide) ?_
  rw [hr1 f (by omega)]
  have hle : lm_it 1000000 w 10 na co ne ad (fun _ => false) (lm_i0 1000000 s) 10 f ≤ 1000000 := Nat.le_trans (lm_it_le _ _ _) (lm_i0_le _ _ _)
  refine zd_callS E (pc := 34) d_P_level_34 kc_P_159 rfl ks_P_orNone (c_P_orNone l D _ _ (show lm_it 1000000 w 10 na co ne ad (fun _ => false) (lm_i0 1000000 s) 10 f < 2 ^ 31 by omega)) (by decide) rfl (Nat.le_of_ble_eq_true rfl) (fun v1 ws1 hv1 => ?_)
  obtain ⟨rfl, rfl⟩ := hv1
  exact zd_iret E (pc := 37) d_P_level_37 ⟨r1, _, hf1, rfl, rfl, rfl⟩
set_option maxRecDepth 100000 in
set_option maxHeartbeats 4000000 in
theorem c_P_bound (l : Launch) (D : va_G) {s : Nat} {w : Bool} (t : tk_C v r nf na fi go co ne ad dr) (hs : v 9 = nI s) (hs2 : s < 1024) : zd_Ct l D classes (wd_ty k) gd_T y_P_bound b_P_bound 2 (some .int) (zd_rm 3) [.ref (q 0), .int (nI (bm_b w))] (wd k q v r ex)
    (fun v1 w1 => ∃ (r2 : Nat → Nat → Int32) (x : Nat), (∀ i, i ≠ 17 → r2 i = r i) ∧ x = lm_jn 1000000 w (lm_it 1000000 w 10 na co ne ad (fun _ => false) (lm_i0 1000000 s) 10) go 10 ∧ v1 = some (.int (if 1000000 ≤ x then -1 else nI x)) ∧ w1 = wd k q v r2 ex) := by
  refine zd_met gd_all (by decide) rfl (Nat.le_of_ble_eq_true rfl) (fun Z E => ?_)
  show Z (wd k q v r ex) [some (.ref (q 0)), some (.int (nI (bm_b w)))] 0 []
  have hbar : (fun a => Nat.testBit 0 a) = (fun _ => false) := by funext a; exact Nat.zero_testBit a
  refine zd_aload_n E (pc := 0) d_P_bound_0 rfl ?_
  refine zd_get E (pc := 1) d_P_bound_1 kf_P_40 0 rfl rfl ?_
  refine zd_aload_n E (pc := 4) d_P_bound_4 rfl ?_
  refine zd_get E (pc := 5) d_P_bound_5 kf_P_53 0 rfl rfl ?_
  rw [hs]
  refine zd_aload_n E (pc := 8) d_P_bound_8 rfl ?_
  refine zd_get E (pc := 9) d_P_bound_9 kf_P_12 0 rfl rfl ?_
  refine zd_get E (pc := 12) d_P_bound_12 kf_P_149 1 rfl rfl ?_
  refine zd_iload_n E (pc := 15) d_P_bound_15 rfl ?_
  refine zd_iconst E (pc := 16) (v := (nI 0)) d_P_bound_16 (by decide) ?_
  refine zd_callV E (pc := 17) d_P_bound_17 kc_P_152 rfl ki_V_measure ke_V_measure 16 rfl rfl (c_V_measure2 l D (w := w) (show s < 2 ^ 31 by omega) (show 0 < 2 ^ 31 by decide) t.hna.1 t.hna.2 t.hco t.hne t.had) (by decide) rfl (Nat.le_of_ble_eq_true rfl) (fun v1 ws1 hv1 => ?_)
  obtain ⟨r1, hf1, hr1, rfl, rfl⟩ := hv1
  rw [hbar] at hr1
  refine zd_aload_n E (pc := 20) d_P_bound_20 rfl ?_
  refine zd_get E (pc := 21) d_P_bound_21 kf_P_40 0 rfl rfl ?_
  refine zd_aload_n E (pc := 24) d_P_bound_24 rfl ?_
  refine zd_get E (pc := 25) d_P_bound_25 kf_P_12 0 rfl rfl ?_
  refine zd_get E (pc := 28) d_P_bound_28 kf_P_162 1 rfl rfl ?_
  rw [t.hgo.1]
  refine zd_iload_n E (pc := 31) d_P_bound_31 rfl ?_
  refine zd_callV E (pc := 32) d_P_bound_32 kc_P_165 rfl ki_V_joined ke_V_joined 16 rfl rfl (c_V_joined l D (w := w) t.hgo.2 (fun i hi => ⟨hr1 i hi, Nat.le_trans (lm_it_le _ _ _) (lm_i0_le _ _ _)⟩)) (by decide) rfl (Nat.le_of_ble_eq_true rfl) (fun v1 ws1 hv1 => ?_)
  obtain ⟨rfl, rfl⟩ := hv1
  have hle := lm_jn_le 1000000 w (lm_it 1000000 w 10 na co ne ad (fun _ => false) (lm_i0 1000000 s) 10) go 10
  refine zd_callS E (pc := 35) d_P_bound_35 kc_P_159 rfl ks_P_orNone (c_P_orNone l D _ _ (show lm_jn 1000000 w (lm_it 1000000 w 10 na co ne ad (fun _ => false) (lm_i0 1000000 s) 10) go 10 < 2 ^ 31 by omega)) (by decide) rfl (Nat.le_of_ble_eq_true rfl) (fun v1 ws1 hv1 => ?_)
  obtain ⟨rfl, rfl⟩ := hv1
  exact zd_iret E (pc := 38) d_P_bound_38 ⟨r1, _, hf1, rfl, rfl, rfl⟩
/-- the cuts of a state, as the cells hold them -/
def cs_ok (v : Nat → Int32) (r : Nat → Nat → Int32) (na go : Nat) (co ne ad : Nat → Nat) (s m : Nat) (CC : Nat → Nat) (tot : Int32) : Prop :=
  ∃ (cc : Nat → Nat → Nat) (pp : Nat → Nat), cs_run na co ne ad s go m cc CC pp ∧ m ≤ 12 ∧ (m = 12 ∨ cs_G na (cc m) ne ad s go = 0 ∨ 1000000 ≤ cs_G na (cc m) ne ad s go) ∧ tot = (if 1000000 ≤ cs_G na (cc m) ne ad s go then -1 else nI (lm_sum pp m))
set_option maxRecDepth 100000 in
set_option maxHeartbeats 4000000 in
theorem c_P_cuts (l : Launch) (D : va_G) {s : Nat} (t : tk_C v r nf na fi go co ne ad dr) (hs : v 9 = nI s) (hs2 : s < 1024) : zd_Ct l D classes (wd_ty k) gd_T y_P_cuts b_P_cuts 1 (some .int) (zd_rm 5) [.ref (q 0)] (wd k q v r ex)
    (fun v1 w1 => ∃ (v2 : Nat → Int32) (r2 : Nat → Nat → Int32) (m : Nat) (CC : Nat → Nat) (tot : Int32), (∀ i, i ≠ 7 → i ≠ 8 → v2 i = v i) ∧ (∀ i, i ≠ 17 → i ≠ 19 → i ≠ 20 → i ≠ 21 → r2 i = r i) ∧ cs_ok v2 r2 na go co ne ad s m CC tot ∧ v1 = some (.int tot) ∧ w1 = wd k q v2 r2 ex) := by
  refine zd_met gd_all (by decide) rfl (Nat.le_of_ble_eq_true rfl) (fun Z E => ?_)
  show Z (wd k q v r ex) [some (.ref (q 0))] 0 []
  refine zd_aload_n E (pc := 0) d_P_cuts_0 rfl ?_
  refine zd_get E (pc := 1) d_P_cuts_1 kf_P_49 0 rfl rfl ?_
  refine zd_aload_n E (pc := 4) d_P_cuts_4 rfl ?_
  refine zd_get E (pc := 5) d_P_cuts_5 kf_P_53 0 rfl rfl ?_
  rw [hs]
  refine zd_callV E (pc := 8) d_P_cuts_8 kc_P_169 rfl ki_U_collect ke_U_collect 18 rfl rfl (c_U_collect l D t hs2) (by decide) rfl (Nat.le_of_ble_eq_true rfl) (fun v1 ws1 hv1 => ?_)
  obtain ⟨v2, r2, m, cc, CC, pp, hfv, hfr, hrun, hm, hend, h7, h21, h8, rfl, rfl⟩ := hv1
  refine zd_aload_n E (pc := 11) d_P_cuts_11 rfl ?_
  refine zd_get E (pc := 12) d_P_cuts_12 kf_P_49 0 rfl rfl ?_
  refine zd_get E (pc := 15) d_P_cuts_15 kf_P_172 18 rfl rfl ?_
  rw [h8]
  exact zd_iret E (pc := 18) d_P_cuts_18 ⟨v2, r2, m, CC, _, hfv, hfr, ⟨cc, pp, hrun, hm, hend, rfl⟩, rfl, rfl⟩
set_option maxRecDepth 100000 in
set_option maxHeartbeats 4000000 in
theorem c_P_cut (l : Launch) (D : va_G) {s : Nat} (x : Int32) (t : tk_C v r nf na fi go co ne ad dr) (hs : v 9 = nI s) (hs2 : s < 1024) : zd_Ct l D classes (wd_ty k) gd_T y_P_cut b_P_cut 2 (some .int) (zd_rm 5) [.ref (q 0), .int x] (wd k q v r ex)
    (fun v1 w1 => ∃ (v2 : Nat → Int32) (r2 : Nat → Nat → Int32) (m : Nat) (CC : Nat → Nat) (tot : Int32), (∀ i, i ≠ 7 → i ≠ 8 → v2 i = v i) ∧ (∀ i, i ≠ 17 → i ≠ 19 → i ≠ 20 → i ≠ 21 → r2 i = r i) ∧ cs_ok v2 r2 na go co ne ad s m CC tot ∧ ((∃ j, j < m ∧ x = nI j ∧ v1 = some (.int (nI (CC j)))) ∨ ((x < 0 ∨ nI m ≤ x) ∧ v1 = some (.int (nI 0)))) ∧ w1 = wd k q v2 r2 ex) := by
  refine zd_met gd_all (by decide) rfl (Nat.le_of_ble_eq_true rfl) (fun Z E => ?_)
  show Z (wd k q v r ex) [some (.ref (q 0)), some (.int x)] 0 []
  refine zd_aload_n E (pc := 0) d_P_cut_0 rfl ?_
  refine zd_get E (pc := 1) d_P_cut_1 kf_P_49 0 rfl rfl ?_
  refine zd_aload_n E (pc := 4) d_P_cut_4 rfl ?_
  refine zd_get E (pc := 5) d_P_cut_5 kf_P_53 0 rfl rfl ?_
  rw [hs]
  refine zd_callV E (pc := 8) d_P_cut_8 kc_P_169 rfl ki_U_collect ke_U_collect 18 rfl rfl (c_U_collect l D t hs2) (by decide) rfl (Nat.le_of_ble_eq_true rfl) (fun v1 ws1 hv1 => ?_)
  obtain ⟨v2, r2, m, cc, CC, pp, hfv, hfr, hrun, hm, hend, h7, h21, h8, rfl, rfl⟩ := hv1
  have out : (x < 0 ∨ nI m ≤ x) → Z (wd k q v2 r2 ex) [some (.ref (q 0)), some (.int x)] 26 [] := by
    intro hx
    refine zd_iconst E (pc := 26) (v := (nI 0)) d_P_cut_26 (by decide) ?_
    refine zd_goto E (pc := 27) 39 d_P_cut_27 (by decide) ?_
    exact zd_iret E (pc := 39) d_P_cut_39 ⟨v2, r2, m, CC, _, hfv, hfr, ⟨cc, pp, hrun, hm, hend, rfl⟩, Or.inr ⟨hx, rfl⟩, rfl⟩
  refine zd_iload_n E (pc := 11) d_P_cut_11 rfl ?_
  refine zd_if_lt E (pc := 12) 26 d_P_cut_12 (by decide) (fun h0 => ?_) (fun h0 => ?_)
  · exact out (Or.inl h0)
  · refine zd_iload_n E (pc := 15) d_P_cut_15 rfl ?_
    refine zd_aload_n E (pc := 16) d_P_cut_16 rfl ?_
    refine zd_get E (pc := 17) d_P_cut_17 kf_P_49 0 rfl rfl ?_
    refine zd_get E (pc := 20) d_P_cut_20 kf_P_175 18 rfl rfl ?_
    rw [h7]
    refine zd_ic_lt E (pc := 23) 30 d_P_cut_23 (by decide) (fun h1 => ?_) (fun h1 => ?_)
    · rcases pk_ix x (n := m) (by omega) with z | z | ⟨j, hj, rfl⟩
      · exact absurd z h0
      · exact absurd h1 (by rw [Int32.lt_iff_toInt_lt]; rw [Int32.le_iff_toInt_le] at z; omega)
      · refine zd_aload_n E (pc := 30) d_P_cut_30 rfl ?_
        refine zd_get E (pc := 31) d_P_cut_31 kf_P_49 0 rfl rfl ?_
        refine zd_get E (pc := 34) d_P_cut_34 kf_P_178 18 rfl rfl ?_
        refine zd_iload_n E (pc := 37) d_P_cut_37 rfl ?_
        refine zd_iald E (pc := 38) d_P_cut_38 21 rfl (t0 := 0) rfl (j) (rfl) ((by omega)) (by decide) ?_
        rw [h21 j hj]
        exact zd_iret E (pc := 39) d_P_cut_39 ⟨v2, r2, m, CC, _, hfv, hfr, ⟨cc, pp, hrun, hm, hend, rfl⟩, Or.inl ⟨j, hj, rfl, rfl⟩, rfl⟩
    · refine out (Or.inr ?_)
      rw [Int32.le_iff_toInt_le]; rw [Int32.lt_iff_toInt_lt] at h1; omega
set_option maxRecDepth 100000 in
set_option maxHeartbeats 4000000 in
theorem c_P_landmark (l : Launch) (D : va_G) {s f : Nat} (t : tk_C v r nf na fi go co ne ad dr) (hs : v 9 = nI s) (hs2 : s < 1024) (hf : f < nf) : zd_Ct l D classes (wd_ty k) gd_T y_P_landmark b_P_landmark 2 (some .boolean) (zd_rm 3) [.ref (q 0), .int (nI f)] (wd k q v r ex)
    (fun v1 w1 => ∃ (r2 : Nat → Nat → Int32) (b : Bool), (∀ i, i ≠ 17 → r2 i = r i) ∧ (b = true ↔ (s.testBit f = true ∨ lm_jn 1000000 false (lm_it 1000000 false 10 na co ne ad (fun a => (cu_mk (fun a => (ad a).testBit f) na).testBit a) (lm_i0 1000000 s) 10) go 10 = 1000000)) ∧ v1 = some (.int (nI (bm_b b))) ∧ w1 = wd k q v r2 ex) := by
  refine zd_met gd_all (by decide) rfl (Nat.le_of_ble_eq_true rfl) (fun Z E => ?_)
  show Z (wd k q v r ex) [some (.ref (q 0)), some (.int (nI f))] 0 []
  have hnf := t.2.2.1.1
  have hna := t.hna.2
  have hmk : cu_mk (fun a => (ad a).testBit f) na < 2 ^ 31 := Nat.lt_of_lt_of_le (cu_mk_lt _ _) (Nat.pow_le_pow_right (by decide) (by omega))
  refine zd_aload_n E (pc := 0) d_P_landmark_0 rfl ?_
  refine zd_iload_n E (pc := 1) d_P_landmark_1 rfl ?_
  refine zd_callV E (pc := 2) d_P_landmark_2 kc_P_91 rfl ki_P_refuseUnknownFact ke_P_refuseUnknownFact 0 rfl rfl (c_P_refuseUnknownFact l D t.1.1 hf (by omega)) (by decide) rfl (Nat.le_of_ble_eq_true rfl) (fun v1 ws1 hv1 => ?_)
  obtain ⟨rfl, rfl⟩ := hv1
  refine zd_aload_n E (pc := 5) d_P_landmark_5 rfl ?_
  refine zd_get E (pc := 6) d_P_landmark_6 kf_P_53 0 rfl rfl ?_
  rw [hs]
  refine zd_iload_n E (pc := 9) d_P_landmark_9 rfl ?_
  refine zd_callS E (pc := 10) d_P_landmark_10 kc_P_100 rfl ks_P_has (c_P_has l D _ _ (show s < 2 ^ 31 by omega) (show f < 32 by omega)) (by decide) rfl (Nat.le_of_ble_eq_true rfl) (fun v1 ws1 hv1 => ?_)
  obtain ⟨rfl, rfl⟩ := hv1
  refine zd_bf_eq E (pc := 13) 18 d_P_landmark_13 (by decide) (fun hb => ?_) (fun hb => ?_)
  · refine zd_aload_n E (pc := 18) d_P_landmark_18 rfl ?_
    refine zd_get E (pc := 19) d_P_landmark_19 kf_P_40 0 rfl rfl ?_
    refine zd_aload_n E (pc := 22) d_P_landmark_22 rfl ?_
    refine zd_get E (pc := 23) d_P_landmark_23 kf_P_53 0 rfl rfl ?_
    rw [hs]
    refine zd_aload_n E (pc := 26) d_P_landmark_26 rfl ?_
    refine zd_get E (pc := 27) d_P_landmark_27 kf_P_12 0 rfl rfl ?_
    refine zd_get E (pc := 30) d_P_landmark_30 kf_P_149 1 rfl rfl ?_
    refine zd_iconst E (pc := 33) (v := (nI 0)) d_P_landmark_33 (by decide) ?_
    refine zd_aload_n E (pc := 34) d_P_landmark_34 rfl ?_
    refine zd_get E (pc := 35) d_P_landmark_35 kf_P_12 0 rfl rfl ?_
    refine zd_iload_n E (pc := 38) d_P_landmark_38 rfl ?_
    refine zd_callV E (pc := 39) d_P_landmark_39 kc_P_181 rfl ki_T_addersOf ke_T_addersOf 1 rfl rfl (c_T_addersOf l D t (show f < 32 by omega)) (by decide) rfl (Nat.le_of_ble_eq_true rfl) (fun v1 ws1 hv1 => ?_)
    obtain ⟨rfl, rfl⟩ := hv1
    refine zd_callV E (pc := 42) d_P_landmark_42 kc_P_152 rfl ki_V_measure ke_V_measure 16 rfl rfl (c_V_measure2 l D (w := false) (show s < 2 ^ 31 by omega) hmk t.hna.1 t.hna.2 t.hco t.hne t.had) (by decide) rfl (Nat.le_of_ble_eq_true rfl) (fun v1 ws1 hv1 => ?_)
    obtain ⟨r1, hf1, hr1, rfl, rfl⟩ := hv1
    refine zd_aload_n E (pc := 45) d_P_landmark_45 rfl ?_
    refine zd_get E (pc := 46) d_P_landmark_46 kf_P_40 0 rfl rfl ?_
    refine zd_aload_n E (pc := 49) d_P_landmark_49 rfl ?_
    refine zd_get E (pc := 50) d_P_landmark_50 kf_P_12 0 rfl rfl ?_
    refine zd_get E (pc := 53) d_P_landmark_53 kf_P_162 1 rfl rfl ?_
    rw [t.hgo.1]
    refine zd_iconst E (pc := 56) (v := (nI 0)) d_P_landmark_56 (by decide) ?_
    refine zd_callV E (pc := 57) d_P_landmark_57 kc_P_165 rfl ki_V_joined ke_V_joined 16 rfl rfl (c_V_joined l D (w := false) t.hgo.2 (fun i hi => ⟨hr1 i hi, Nat.le_trans (lm_it_le _ _ _) (lm_i0_le _ _ _)⟩)) (by decide) rfl (Nat.le_of_ble_eq_true rfl) (fun v1 ws1 hv1 => ?_)
    obtain ⟨rfl, rfl⟩ := hv1
    have hle := lm_jn_le 1000000 false (lm_it 1000000 false 10 na co ne ad (fun a => (cu_mk (fun a => (ad a).testBit f) na).testBit a) (lm_i0 1000000 s) 10) go 10
    refine zd_ldc E (pc := 60) (v := (nI 1000000)) d_P_landmark_60 kk_P_184 ?_
    refine zd_nc_ne E (pc := 62) 69 d_P_landmark_62 (by decide) ((by omega)) ((by omega)) (fun hq => ?_) (fun hq => ?_)
    · refine zd_iconst E (pc := 69) (v := (nI 0)) d_P_landmark_69 (by decide) ?_
      exact zd_zret E (pc := 70) d_P_landmark_70 (by decide) ⟨r1, false, hf1, ⟨(fun z => by cases z), fun z => z.elim (fun y => absurd y hb) (fun y => absurd y hq)⟩, rfl, rfl⟩
    · refine zd_iconst E (pc := 65) (v := (nI 1)) d_P_landmark_65 (by decide) ?_
      refine zd_goto E (pc := 66) 70 d_P_landmark_66 (by decide) ?_
      exact zd_zret E (pc := 70) d_P_landmark_70 (by decide) ⟨r1, true, hf1, ⟨fun _ => Or.inr hq, fun _ => rfl⟩, rfl, rfl⟩
  · refine zd_iconst E (pc := 16) (v := (nI 1)) d_P_landmark_16 (by decide) ?_
    exact zd_zret E (pc := 17) d_P_landmark_17 (by decide) ⟨r, true, fun _ _ => rfl, ⟨fun _ => Or.inl hb, fun _ => rfl⟩, rfl, rfl⟩
set_option maxRecDepth 100000 in
set_option maxHeartbeats 4000000 in
theorem c_P_draft (l : Launch) (D : va_G) {a n : Nat} (t : tk_C v r nf na fi go co ne ad dr) (ha : a < na) (hv : v 6 = nI n) (hn : n < 24) : zd_Ct l D classes (wd_ty k) gd_T y_P_draft b_P_draft 2 (some .int) (zd_rm 1) [.ref (q 0), .int (nI a)] (wd k q v r ex) (zd_is (some (.int (nI (n + 1)))) (wd k q (upd v 6 (nI (n + 1))) (va_up r 15 (upd (r 15) n (nI a))) ex)) := by
  refine zd_met gd_all (by decide) rfl (Nat.le_of_ble_eq_true rfl) (fun Z E => ?_)
  show Z (wd k q v r ex) [some (.ref (q 0)), some (.int (nI a))] 0 []
  have hna := t.hna.2
  refine zd_aload_n E (pc := 0) d_P_draft_0 rfl ?_
  refine zd_iload_n E (pc := 1) d_P_draft_1 rfl ?_
  refine zd_callV E (pc := 2) d_P_draft_2 kc_P_88 rfl ki_P_refuseUnknownAction ke_P_refuseUnknownAction 0 rfl rfl (c_P_refuseUnknownAction l D t.hna.1 ha (by omega)) (by decide) rfl (Nat.le_of_ble_eq_true rfl) (fun v1 ws1 hv1 => ?_)
  obtain ⟨rfl, rfl⟩ := hv1
  refine zd_aload_n E (pc := 5) d_P_draft_5 rfl ?_
  refine zd_get E (pc := 6) d_P_draft_6 kf_P_34 0 rfl rfl ?_
  refine zd_get E (pc := 9) d_P_draft_9 kf_P_136 14 rfl rfl ?_
  rw [hv]
  refine zd_bipush E (pc := 12) (v := (nI 24)) d_P_draft_12 (by decide) ?_
  refine zd_nc_lt E (pc := 14) 27 d_P_draft_14 (by decide) ((by omega)) ((by omega)) (fun hq => ?_) (fun hq => ?_)
  · refine zd_aload_n E (pc := 27) d_P_draft_27 rfl ?_
    refine zd_get E (pc := 28) d_P_draft_28 kf_P_34 0 rfl rfl ?_
    refine zd_iload_n E (pc := 31) d_P_draft_31 rfl ?_
    refine zd_callV E (pc := 32) d_P_draft_32 kc_P_187 rfl ki_R_append ke_R_append 14 rfl rfl (c_R_append14 l D hv (show n < 24 from hn)) (by decide) rfl (Nat.le_of_ble_eq_true rfl) (fun v1 ws1 hv1 => ?_)
    obtain ⟨rfl, rfl⟩ := hv1
    refine zd_aload_n E (pc := 35) d_P_draft_35 rfl ?_
    refine zd_get E (pc := 36) d_P_draft_36 kf_P_34 0 rfl rfl ?_
    refine zd_get E (pc := 39) d_P_draft_39 kf_P_136 14 rfl rfl ?_
    exact zd_iret E (pc := 42) d_P_draft_42 ⟨rfl, rfl⟩
  · omega
set_option maxRecDepth 100000 in
set_option maxHeartbeats 4000000 in
theorem c_P_wipe (l : Launch) (D : va_G) : zd_Ct l D classes (wd_ty k) gd_T y_P_wipe b_P_wipe 1 none (zd_rm 1) [.ref (q 0)] (wd k q v r ex) (zd_is none (wd k q (upd v 6 (nI 0)) r ex)) := by
  refine zd_met gd_all (by decide) rfl (Nat.le_of_ble_eq_true rfl) (fun Z E => ?_)
  show Z (wd k q v r ex) [some (.ref (q 0))] 0 []
  refine zd_aload_n E (pc := 0) d_P_wipe_0 rfl ?_
  refine zd_get E (pc := 1) d_P_wipe_1 kf_P_34 0 rfl rfl ?_
  refine zd_callV E (pc := 4) d_P_wipe_4 kc_P_125 rfl ki_R_empty ke_R_empty 14 rfl rfl (c_R_empty14 l D) (by decide) rfl (Nat.le_of_ble_eq_true rfl) (fun v1 ws1 hv1 => ?_)
  obtain ⟨rfl, rfl⟩ := hv1
  exact zd_vret E (pc := 7) d_P_wipe_7 ⟨rfl, rfl⟩
set_option maxRecDepth 100000 in
set_option maxHeartbeats 4000000 in
theorem c_P_check (l : Launch) (D : va_G) {s n : Nat} {di : Nat → Nat} (t : tk_C v r nf na fi go co ne ad dr) (hs : v 9 = nI s) (hs2 : s < 1024) (hv : v 6 = nI n) (hn : n ≤ 24) (hd : ∀ j, j < n → r 15 j = nI (di j) ∧ di j < na) : zd_Ct l D classes (wd_ty k) gd_T y_P_check b_P_check 4 (some .int) (zd_rm 2) [.ref (q 0)] (wd k q v r ex) (zd_is (some (.int (tk_ck ne ad dr go di n n 0 s))) (wd k q v r ex)) := by
  refine zd_met gd_all (by decide) rfl (Nat.le_of_ble_eq_true rfl) (fun Z E => ?_)
  show Z (wd k q v r ex) [some (.ref (q 0)), none, none, none] 0 []
  have hna := t.hna.2
  have loop : ∀ (m i x : Nat) (L3 : Option Value), i + m = n → x < 1024 → tk_ck ne ad dr go di n n 0 s = tk_ck ne ad dr go di n m i x → Z (wd k q v r ex) [some (.ref (q 0)), some (.int (nI x)), some (.int (nI i)), L3] 7 [] := by
    intro m
    induction m with
    | zero =>
      intro i x L3 hi hx he
      refine zd_iload_n E (pc := 7) d_P_check_7 rfl ?_
      refine zd_aload_n E (pc := 8) d_P_check_8 rfl ?_
      refine zd_get E (pc := 9) d_P_check_9 kf_P_34 0 rfl rfl ?_
      refine zd_get E (pc := 12) d_P_check_12 kf_P_136 14 rfl rfl ?_
      rw [hv]
      refine zd_nc_ge E (pc := 15) 58 d_P_check_15 (by decide) ((by omega)) ((by omega)) (fun hq => ?_) (fun hq => ?_)
      · refine zd_aload_n E (pc := 58) d_P_check_58 rfl ?_
        refine zd_get E (pc := 59) d_P_check_59 kf_P_12 0 rfl rfl ?_
        refine zd_iload_n E (pc := 62) d_P_check_62 rfl ?_
        refine zd_callV E (pc := 63) d_P_check_63 kc_P_118 rfl ki_T_isMet ke_T_isMet 1 rfl rfl (c_T_isMet l D t.hgo.1 t.hgo.2) (by decide) rfl (Nat.le_of_ble_eq_true rfl) (fun v1 ws1 hv1 => ?_)
        obtain ⟨rfl, rfl⟩ := hv1
        refine zd_bf_eq E (pc := 66) 73 d_P_check_66 (by decide) (fun hb => ?_) (fun hb => ?_)
        · refine zd_aload_n E (pc := 73) d_P_check_73 rfl ?_
          refine zd_get E (pc := 74) d_P_check_74 kf_P_34 0 rfl rfl ?_
          refine zd_get E (pc := 77) d_P_check_77 kf_P_136 14 rfl rfl ?_
          rw [hv]
          exact zd_iret E (pc := 80) d_P_check_80 ⟨by rw [he, tk_ck, if_neg hb], rfl⟩
        · refine zd_iconst E (pc := 69) (v := (-1)) d_P_check_69 (by decide) ?_
          refine zd_goto E (pc := 70) 80 d_P_check_70 (by decide) ?_
          exact zd_iret E (pc := 80) d_P_check_80 ⟨by rw [he, tk_ck, if_pos hb], rfl⟩
      · omega
    | succ m ih =>
      intro i x L3 hi hx he
      obtain ⟨d1, d2⟩ := hd i (by omega)
      have ha12 : di i < 12 := by omega
      refine zd_iload_n E (pc := 7) d_P_check_7 rfl ?_
      refine zd_aload_n E (pc := 8) d_P_check_8 rfl ?_
      refine zd_get E (pc := 9) d_P_check_9 kf_P_34 0 rfl rfl ?_
      refine zd_get E (pc := 12) d_P_check_12 kf_P_136 14 rfl rfl ?_
      rw [hv]
      refine zd_nc_ge E (pc := 15) 58 d_P_check_15 (by decide) ((by omega)) ((by omega)) (fun hq => ?_) (fun hq => ?_)
      · omega
      · refine zd_aload_n E (pc := 18) d_P_check_18 rfl ?_
        refine zd_get E (pc := 19) d_P_check_19 kf_P_34 0 rfl rfl ?_
        refine zd_get E (pc := 22) d_P_check_22 kf_P_139 14 rfl rfl ?_
        refine zd_iload_n E (pc := 25) d_P_check_25 rfl ?_
        refine zd_iald E (pc := 26) d_P_check_26 15 rfl (t0 := 0) rfl (i) (rfl) ((by omega)) (by decide) ?_
        rw [d1]
        refine zd_istore_n E (pc := 27) d_P_check_27 (by decide) ?_
        refine zd_aload_n E (pc := 28) d_P_check_28 rfl ?_
        refine zd_get E (pc := 29) d_P_check_29 kf_P_12 0 rfl rfl ?_
        refine zd_iload_n E (pc := 32) d_P_check_32 rfl ?_
        refine zd_iload_n E (pc := 33) d_P_check_33 rfl ?_
        refine zd_callV E (pc := 34) d_P_check_34 kc_P_109 rfl ki_T_allows ke_T_allows 1 rfl rfl (c_T_allows l D ha12 t.hne) (by decide) rfl (Nat.le_of_ble_eq_true rfl) (fun v1 ws1 hv1 => ?_)
        obtain ⟨rfl, rfl⟩ := hv1
        refine zd_bf_ne E (pc := 37) 42 d_P_check_37 (by decide) (fun hb => ?_) (fun hb => ?_)
        · refine zd_aload_n E (pc := 42) d_P_check_42 rfl ?_
          refine zd_get E (pc := 43) d_P_check_43 kf_P_12 0 rfl rfl ?_
          refine zd_iload_n E (pc := 46) d_P_check_46 rfl ?_
          refine zd_iload_n E (pc := 47) d_P_check_47 rfl ?_
          refine zd_callV E (pc := 48) d_P_check_48 kc_P_114 rfl ki_T_after ke_T_after 1 rfl rfl (c_T_after l D ha12 t.had0 t.hdr0) (by decide) rfl (Nat.le_of_ble_eq_true rfl) (fun v1 ws1 hv1 => ?_)
          obtain ⟨rfl, rfl⟩ := hv1
          refine zd_istore_n E (pc := 51) d_P_check_51 (by decide) ?_
          refine zd_iinc E (pc := 52) d_P_check_52 rfl (bm_inc i) (by decide) ?_
          refine zd_goto E (pc := 55) 7 d_P_check_55 (by decide) ?_
          exact ih (i + 1) (tk_af ad dr (di i) x) _ (by omega) (t.haf ha12 hx) (by rw [he, tk_ck, if_pos hb])
        · refine zd_iload_n E (pc := 40) d_P_check_40 rfl ?_
          exact zd_iret E (pc := 41) d_P_check_41 ⟨by rw [he, tk_ck, if_neg hb], rfl⟩
  refine zd_aload_n E (pc := 0) d_P_check_0 rfl ?_
  refine zd_get E (pc := 1) d_P_check_1 kf_P_53 0 rfl rfl ?_
  rw [hs]
  refine zd_istore_n E (pc := 4) d_P_check_4 (by decide) ?_
  refine zd_iconst E (pc := 5) (v := (nI 0)) d_P_check_5 (by decide) ?_
  refine zd_istore_n E (pc := 6) d_P_check_6 (by decide) ?_
  exact loop n 0 s none (by omega) hs2 rfl
set_option maxRecDepth 100000 in
set_option maxHeartbeats 4000000 in
theorem c_P_cost (l : Launch) (D : va_G) {n : Nat} {di : Nat → Nat} (t : tk_C v r nf na fi go co ne ad dr) (hv : v 6 = nI n) (hn : n ≤ 24) (hd : ∀ j, j < n → r 15 j = nI (di j) ∧ di j < na) : zd_Ct l D classes (wd_ty k) gd_T y_P_cost b_P_cost 3 (some .int) (zd_rm 0) [.ref (q 0)] (wd k q v r ex) (zd_is (some (.int (nI (lm_sum (fun j => co (di j)) n)))) (wd k q v r ex)) := by
  refine zd_met gd_all (by decide) rfl (Nat.le_of_ble_eq_true rfl) (fun Z E => ?_)
  show Z (wd k q v r ex) [some (.ref (q 0)), none, none] 0 []
  have hna := t.hna.2
  have loop : ∀ (m i : Nat), i + m = n → Z (wd k q v r ex) [some (.ref (q 0)), some (.int (nI (lm_sum (fun j => co (di j)) i))), some (.int (nI i))] 4 [] := by
    intro m
    induction m with
    | zero =>
      intro i hi
      have e : i = n := by omega
      subst e
      refine zd_iload_n E (pc := 4) d_P_cost_4 rfl ?_
      refine zd_aload_n E (pc := 5) d_P_cost_5 rfl ?_
      refine zd_get E (pc := 6) d_P_cost_6 kf_P_34 0 rfl rfl ?_
      refine zd_get E (pc := 9) d_P_cost_9 kf_P_136 14 rfl rfl ?_
      rw [hv]
      refine zd_nc_ge E (pc := 12) 41 d_P_cost_12 (by decide) ((by omega)) ((by omega)) (fun hq => ?_) (fun hq => ?_)
      · refine zd_iload_n E (pc := 41) d_P_cost_41 rfl ?_
        exact zd_iret E (pc := 42) d_P_cost_42 ⟨rfl, rfl⟩
      · omega
    | succ m ih =>
      intro i hi
      obtain ⟨d1, d2⟩ := hd i (by omega)
      refine zd_iload_n E (pc := 4) d_P_cost_4 rfl ?_
      refine zd_aload_n E (pc := 5) d_P_cost_5 rfl ?_
      refine zd_get E (pc := 6) d_P_cost_6 kf_P_34 0 rfl rfl ?_
      refine zd_get E (pc := 9) d_P_cost_9 kf_P_136 14 rfl rfl ?_
      rw [hv]
      refine zd_nc_ge E (pc := 12) 41 d_P_cost_12 (by decide) ((by omega)) ((by omega)) (fun hq => ?_) (fun hq => ?_)
      · omega
      · refine zd_iload_n E (pc := 15) d_P_cost_15 rfl ?_
        refine zd_aload_n E (pc := 16) d_P_cost_16 rfl ?_
        refine zd_get E (pc := 17) d_P_cost_17 kf_P_12 0 rfl rfl ?_
        refine zd_get E (pc := 20) d_P_cost_20 kf_P_149 1 rfl rfl ?_
        refine zd_aload_n E (pc := 23) d_P_cost_23 rfl ?_
        refine zd_get E (pc := 24) d_P_cost_24 kf_P_34 0 rfl rfl ?_
        refine zd_get E (pc := 27) d_P_cost_27 kf_P_139 14 rfl rfl ?_
        refine zd_iload_n E (pc := 30) d_P_cost_30 rfl ?_
        refine zd_iald E (pc := 31) d_P_cost_31 15 rfl (t0 := 0) rfl (i) (rfl) ((by omega)) (by decide) ?_
        rw [d1]
        refine zd_iald E (pc := 32) d_P_cost_32 2 rfl (t0 := 0) rfl (di i) (rfl) ((by omega)) (by decide) ?_
        rw [(t.hco (di i) (by omega)).1]
        refine zd_iadd E (pc := 33) d_P_cost_33 ?_
        rw [nI_add]
        refine zd_istore_n E (pc := 34) d_P_cost_34 (by decide) ?_
        refine zd_iinc E (pc := 35) d_P_cost_35 rfl (bm_inc i) (by decide) ?_
        refine zd_goto E (pc := 38) 4 d_P_cost_38 (by decide) ?_
        exact ih (i + 1) (by omega)
  refine zd_iconst E (pc := 0) (v := (nI 0)) d_P_cost_0 (by decide) ?_
  refine zd_istore_n E (pc := 1) d_P_cost_1 (by decide) ?_
  refine zd_iconst E (pc := 2) (v := (nI 0)) d_P_cost_2 (by decide) ?_
  refine zd_istore_n E (pc := 3) d_P_cost_3 (by decide) ?_
  exact loop n 0 (by omega)
end P2
end
section
/-! The reference: what its cells hold; its small methods. -/
section ZZ2
variable {Z : va_W → List (Option Value) → Nat → List Value → Prop} {l : Launch} {D : va_G} {cl : List vw_C} {tys : List (ClassId × FieldType)} {cc : ByteArray} {nL : Nat} {own : String} {Ts : List Cond} {R : Room} {ret : Option FieldType} {post : Option Value → va_W → Prop}
variable {ws : va_W} {L : List (Option Value)} {pc : Nat} {st : List Value}
theorem zd_zast (E : zd_E Z l D cl tys cc nL own Ts R ret post) {a t0 N : Nat} {cA : ClassId} {f : Nat → Int32} {i : Int32} {b : Bool} {ws1 : va_W} (d : decode cc pc = .ok (.bastore, 1)) (j : Nat) (ha : ws[j]? = some (a, .inl (cA, N, .inl f))) (ht : tys[t0]? = some (cA, .boolean)) (x : Nat) (hi : i = nI x) (hx1 : x < N) (hN : N < 2 ^ 31) (hw : ws.set j (a, .inl (cA, N, .inl (upd f x (nI (bm_b b))))) = ws1) (k : Z ws1 L (pc + 1) st) : Z ws L pc (.int (nI (bm_b b)) :: .int i :: .ref a :: st) := by
  obtain ⟨p, e, s, m, args, below, meth, c, A, hx, hb, hml, hown, hts, hK, hr, hlk, rfl⟩ := E
  subst hi
  subst hw
  have e1 : (nI x).toNatClampNeg = x := nI_clamp (Nat.lt_trans hx1 hN)
  have e2 : vp_nar .boolean (nI (bm_b b)) = nI (bm_b b) := by cases b <;> decide
  exact fun H locs ls hP hD hS hl => va_zast hx hb hK hP hD hS j t0 ha ht (vp_in_nI hx1 hN) d (by rw [e1, e2]; exact fun H1 locs1 hP1 hD1 hS1 => k H1 locs1 ls hP1 hD1 hS1 hl)
end ZZ2
/-- the reference's numbers at the places of the class's -/
def tk_mv (v : Nat → Int32) : Nat → Int32
  | 0 => v 11
  | 1 => v 14
  | 2 => v 12
  | _ => v 13
def tk_mr (r : Nat → Nat → Int32) : Nat → Nat → Int32
  | 2 => r 23
  | 4 => r 24
  | 5 => r 25
  | 6 => r 26
  | _ => r 23
abbrev tk_M (v : Nat → Int32) (r : Nat → Nat → Int32) (nf na fi go : Nat) (co ne ad dr : Nat → Nat) : Prop := tk_C (tk_mv v) (tk_mr r) nf na fi go co ne ad dr
theorem tk_mfr {v v1 : Nat → Int32} {r r1 : Nat → Nat → Int32} {nf na fi go : Nat} {co ne ad dr : Nat → Nat} (t : tk_M v r nf na fi go co ne ad dr) (h1 : v1 11 = v 11) (h2 : v1 12 = v 12) (h3 : v1 13 = v 13) (h4 : v1 14 = v 14) (g3 : r1 23 = r 23) (g4 : r1 24 = r 24) (g5 : r1 25 = r 25) (g6 : r1 26 = r 26) : tk_M v1 r1 nf na fi go co ne ad dr :=
  t.fr (fun i hi => by
    match i, hi with
    | 0, _ => exact h1
    | 1, _ => exact h4
    | 2, _ => exact h2
    | 3, _ => exact h3
    | k + 4, h => omega) g3 g4 g5 g6
theorem bm_dif0 {a b : Nat} : bm_dif a b = 0 ↔ b &&& a = a := by
  constructor
  · intro h
    refine Nat.eq_of_testBit_eq fun i => ?_
    have h1 := bm_dif_bit a b i
    rw [h, Nat.zero_testBit] at h1
    rw [Nat.testBit_and]
    cases ha : a.testBit i with
    | false => rw [Bool.and_false]
    | true =>
      rw [ha] at h1
      cases hb : b.testBit i with
      | true => rfl
      | false => rw [hb] at h1; cases h1
  · intro h
    refine Nat.eq_of_testBit_eq fun i => ?_
    rw [bm_dif_bit, Nat.zero_testBit]
    have h1 : (b &&& a).testBit i = a.testBit i := by rw [h]
    rw [Nat.testBit_and] at h1
    cases ha : a.testBit i with
    | false => rfl
    | true =>
      rw [ha] at h1
      cases hb : b.testBit i with
      | true => rfl
      | false => rw [hb] at h1; cases h1
section M1
variable {k : Nat → ClassId} {q : Nat → Nat} {v : Nat → Int32} {r : Nat → Nat → Int32} {ex : va_W} {nf na fi go : Nat} {co ne ad dr : Nat → Nat}
set_option maxRecDepth 100000 in
set_option maxHeartbeats 4000000 in
theorem c_M_thrown (l : Launch) (D : va_G) : zd_Ct l D classes (wd_ty k) gd_T y_M_thrown b_M_thrown 1 (some .int) (zd_rm 0) [.ref (q 22)] (wd k q v r ex) (zd_is (some (.int (v 10))) (wd k q v r ex)) := by
  refine zd_met gd_all (by decide) rfl (Nat.le_of_ble_eq_true rfl) (fun Z E => ?_)
  show Z (wd k q v r ex) [some (.ref (q 22))] 0 []
  refine zd_aload_n E (pc := 0) d_M_thrown_0 rfl ?_
  refine zd_get E (pc := 1) d_M_thrown_1 kf_M_44 22 rfl rfl ?_
  exact zd_iret E (pc := 4) d_M_thrown_4 ⟨rfl, rfl⟩
set_option maxRecDepth 100000 in
set_option maxHeartbeats 4000000 in
theorem c_M_noFact (l : Launch) (D : va_G) {n : Nat} (x : Int32) (hv : v (if "Fact" = "Fact" then 11 else 14) = nI n) (hn : n < 100) : zd_Ct l D classes (wd_ty k) gd_T y_M_noFact b_M_noFact 2 (some .boolean) (zd_rm 0) [.ref (q 22), .int x] (wd k q v r ex)
    (fun v1 w1 => ∃ b : Bool, ((b = false ∧ ∃ j, j < n ∧ x = nI j) ∨ (b = true ∧ (x < 0 ∨ nI n ≤ x))) ∧ v1 = some (.int (nI (bm_b b))) ∧ w1 = wd k q v r ex) := by
  refine zd_met gd_all (by decide) rfl (Nat.le_of_ble_eq_true rfl) (fun Z E => ?_)
  show Z (wd k q v r ex) [some (.ref (q 22)), some (.int x)] 0 []
  have out : (x < 0 ∨ nI n ≤ x) → Z (wd k q v r ex) [some (.ref (q 22)), some (.int x)] 12 [] := by
    intro hx
    refine zd_iconst E (pc := 12) (v := (nI 1)) d_M_noFact_12 (by decide) ?_
    refine zd_goto E (pc := 13) 17 d_M_noFact_13 (by decide) ?_
    exact zd_zret E (pc := 17) d_M_noFact_17 (by decide) ⟨true, Or.inr ⟨rfl, hx⟩, rfl, rfl⟩
  refine zd_iload_n E (pc := 0) d_M_noFact_0 rfl ?_
  refine zd_if_lt E (pc := 1) 12 d_M_noFact_1 (by decide) (fun h0 => ?_) (fun h0 => ?_)
  · exact out (Or.inl h0)
  · refine zd_iload_n E (pc := 4) d_M_noFact_4 rfl ?_
    refine zd_aload_n E (pc := 5) d_M_noFact_5 rfl ?_
    refine zd_get E (pc := 6) d_M_noFact_6 kf_M_48 22 rfl rfl ?_
    show Z (wd k q v r ex) [some (.ref (q 22)), some (.int x)] 9 [.int (v (if "Fact" = "Fact" then 11 else 14)), .int x]
    rw [hv]
    refine zd_ic_lt E (pc := 9) 16 d_M_noFact_9 (by decide) (fun h1 => ?_) (fun h1 => ?_)
    · refine zd_iconst E (pc := 16) (v := (nI 0)) d_M_noFact_16 (by decide) ?_
      rcases pk_ix x (n := n) (by omega) with z | z | z
      · exact absurd z h0
      · exact absurd h1 (by rw [Int32.lt_iff_toInt_lt]; rw [Int32.le_iff_toInt_le] at z; omega)
      · exact zd_zret E (pc := 17) d_M_noFact_17 (by decide) ⟨false, Or.inl ⟨rfl, z⟩, rfl, rfl⟩
    · refine out (Or.inr ?_)
      rw [Int32.le_iff_toInt_le]; rw [Int32.lt_iff_toInt_lt] at h1; omega
set_option maxRecDepth 100000 in
set_option maxHeartbeats 4000000 in
theorem c_M_noAction (l : Launch) (D : va_G) {n : Nat} (x : Int32) (hv : v (if "Action" = "Fact" then 11 else 14) = nI n) (hn : n < 100) : zd_Ct l D classes (wd_ty k) gd_T y_M_noAction b_M_noAction 2 (some .boolean) (zd_rm 0) [.ref (q 22), .int x] (wd k q v r ex)
    (fun v1 w1 => ∃ b : Bool, ((b = false ∧ ∃ j, j < n ∧ x = nI j) ∨ (b = true ∧ (x < 0 ∨ nI n ≤ x))) ∧ v1 = some (.int (nI (bm_b b))) ∧ w1 = wd k q v r ex) := by
  refine zd_met gd_all (by decide) rfl (Nat.le_of_ble_eq_true rfl) (fun Z E => ?_)
  show Z (wd k q v r ex) [some (.ref (q 22)), some (.int x)] 0 []
  have out : (x < 0 ∨ nI n ≤ x) → Z (wd k q v r ex) [some (.ref (q 22)), some (.int x)] 12 [] := by
    intro hx
    refine zd_iconst E (pc := 12) (v := (nI 1)) d_M_noAction_12 (by decide) ?_
    refine zd_goto E (pc := 13) 17 d_M_noAction_13 (by decide) ?_
    exact zd_zret E (pc := 17) d_M_noAction_17 (by decide) ⟨true, Or.inr ⟨rfl, hx⟩, rfl, rfl⟩
  refine zd_iload_n E (pc := 0) d_M_noAction_0 rfl ?_
  refine zd_if_lt E (pc := 1) 12 d_M_noAction_1 (by decide) (fun h0 => ?_) (fun h0 => ?_)
  · exact out (Or.inl h0)
  · refine zd_iload_n E (pc := 4) d_M_noAction_4 rfl ?_
    refine zd_aload_n E (pc := 5) d_M_noAction_5 rfl ?_
    refine zd_get E (pc := 6) d_M_noAction_6 kf_M_51 22 rfl rfl ?_
    show Z (wd k q v r ex) [some (.ref (q 22)), some (.int x)] 9 [.int (v (if "Action" = "Fact" then 11 else 14)), .int x]
    rw [hv]
    refine zd_ic_lt E (pc := 9) 16 d_M_noAction_9 (by decide) (fun h1 => ?_) (fun h1 => ?_)
    · refine zd_iconst E (pc := 16) (v := (nI 0)) d_M_noAction_16 (by decide) ?_
      rcases pk_ix x (n := n) (by omega) with z | z | z
      · exact absurd z h0
      · exact absurd h1 (by rw [Int32.lt_iff_toInt_lt]; rw [Int32.le_iff_toInt_le] at z; omega)
      · exact zd_zret E (pc := 17) d_M_noAction_17 (by decide) ⟨false, Or.inl ⟨rfl, z⟩, rfl, rfl⟩
    · refine out (Or.inr ?_)
      rw [Int32.le_iff_toInt_le]; rw [Int32.lt_iff_toInt_lt] at h1; omega
set_option maxRecDepth 100000 in
set_option maxHeartbeats 4000000 in
theorem c_M_changed (l : Launch) (D : va_G) : zd_Ct l D classes (wd_ty k) gd_T y_M_changed b_M_changed 1 none (zd_rm 0) [.ref (q 22)] (wd k q v r ex) (zd_is none (wd k q (upd (upd v 17 (nI 0)) 15 (v 12)) r ex)) := by
  refine zd_met gd_all (by decide) rfl (Nat.le_of_ble_eq_true rfl) (fun Z E => ?_)
  show Z (wd k q v r ex) [some (.ref (q 22))] 0 []
  refine zd_aload_n E (pc := 0) d_M_changed_0 rfl ?_
  refine zd_iconst E (pc := 1) (v := (nI 0)) d_M_changed_1 (by decide) ?_
  refine zd_put E (pc := 2) d_M_changed_2 kp_M_54 22 rfl (Nat.le_of_ble_eq_true rfl) (ws1 := wd k q (upd v 17 (nI 0)) r ex) rfl ?_
  refine zd_aload_n E (pc := 5) d_M_changed_5 rfl ?_
  refine zd_aload_n E (pc := 6) d_M_changed_6 rfl ?_
  refine zd_get E (pc := 7) d_M_changed_7 kf_M_57 22 rfl rfl ?_
  show Z (wd k q (upd v 17 (nI 0)) r ex) [some (.ref (q 22))] 10 [.int (v 12), .ref (q 22)]
  refine zd_put E (pc := 10) d_M_changed_10 kp_M_60 22 rfl (Nat.le_of_ble_eq_true rfl) (ws1 := wd k q (upd (upd v 17 (nI 0)) 15 (v 12)) r ex) rfl ?_
  exact zd_vret E (pc := 13) d_M_changed_13 ⟨rfl, rfl⟩
set_option maxRecDepth 100000 in
set_option maxHeartbeats 4000000 in
theorem c_M_can (l : Launch) (D : va_G) {a s : Nat} (t : tk_M v r nf na fi go co ne ad dr) (ha : a < 12) : zd_Ct l D classes (wd_ty k) gd_T y_M_can b_M_can 3 (some .boolean) (zd_rm 0) [.ref (q 22), .int (nI a), .int (nI s)] (wd k q v r ex) (zd_is (some (.int (nI (bm_b (tk_can ne a s))))) (wd k q v r ex)) := by
  refine zd_met gd_all (by decide) rfl (Nat.le_of_ble_eq_true rfl) (fun Z E => ?_)
  show Z (wd k q v r ex) [some (.ref (q 22)), some (.int (nI a)), some (.int (nI s))] 0 []
  obtain ⟨n1, n2⟩ := t.hne a ha
  have n1 : r 24 a = nI (ne a) := n1
  have hlt : bm_dif (ne a) s < 2 ^ 31 := tk_dif_lt n2
  refine zd_aload_n E (pc := 0) d_M_can_0 rfl ?_
  refine zd_get E (pc := 1) d_M_can_1 kf_M_13 22 rfl rfl ?_
  refine zd_iload_n E (pc := 4) d_M_can_4 rfl ?_
  refine zd_iald E (pc := 5) d_M_can_5 24 rfl (t0 := 0) rfl (a) (rfl) (ha) (by decide) ?_
  rw [n1]
  refine zd_iload_n E (pc := 6) d_M_can_6 rfl ?_
  refine zd_iconst E (pc := 7) (v := (-1)) d_M_can_7 (by decide) ?_
  refine zd_ixor E (pc := 8) d_M_can_8 ?_
  refine zd_iand E (pc := 9) d_M_can_9 ?_
  rw [bm_dif32]
  refine zd_if_ne E (pc := 10) 17 d_M_can_10 (by decide) (fun h0 => ?_) (fun h0 => ?_)
  · have hf : tk_can ne a s = false := by
      unfold tk_can
      refine decide_eq_false fun z => h0 ?_
      rw [bm_dif0.mpr z]; rfl
    refine zd_iconst E (pc := 17) (v := (nI 0)) d_M_can_17 (by decide) ?_
    exact zd_zret E (pc := 18) d_M_can_18 (by decide) ⟨by rw [hf]; rfl, rfl⟩
  · have hf : tk_can ne a s = true := by
      unfold tk_can
      refine decide_eq_true (bm_dif0.mp ?_)
      have h0 := Classical.not_not.mp h0
      exact (nI_eq hlt (by decide)).mp (h0.trans nI_0.symm)
    refine zd_iconst E (pc := 13) (v := (nI 1)) d_M_can_13 (by decide) ?_
    refine zd_goto E (pc := 14) 18 d_M_can_14 (by decide) ?_
    exact zd_zret E (pc := 18) d_M_can_18 (by decide) ⟨by rw [hf]; rfl, rfl⟩
set_option maxRecDepth 100000 in
set_option maxHeartbeats 4000000 in
theorem c_M_after (l : Launch) (D : va_G) {a s : Nat} (t : tk_M v r nf na fi go co ne ad dr) (ha : a < 12) : zd_Ct l D classes (wd_ty k) gd_T y_M_after b_M_after 3 (some .int) (zd_rm 0) [.ref (q 22), .int (nI a), .int (nI s)] (wd k q v r ex) (zd_is (some (.int (nI (tk_af ad dr a s)))) (wd k q v r ex)) := by
  refine zd_met gd_all (by decide) rfl (Nat.le_of_ble_eq_true rfl) (fun Z E => ?_)
  show Z (wd k q v r ex) [some (.ref (q 22)), some (.int (nI a)), some (.int (nI s))] 0 []
  have d1 : r 26 a = nI (dr a) := t.hdr0 a ha
  have a1 : r 25 a = nI (ad a) := t.had0 a ha
  refine zd_iload_n E (pc := 0) d_M_after_0 rfl ?_
  refine zd_aload_n E (pc := 1) d_M_after_1 rfl ?_
  refine zd_get E (pc := 2) d_M_after_2 kf_M_19 22 rfl rfl ?_
  refine zd_iload_n E (pc := 5) d_M_after_5 rfl ?_
  refine zd_iald E (pc := 6) d_M_after_6 26 rfl (t0 := 0) rfl (a) (rfl) (ha) (by decide) ?_
  rw [d1]
  refine zd_iconst E (pc := 7) (v := (-1)) d_M_after_7 (by decide) ?_
  refine zd_ixor E (pc := 8) d_M_after_8 ?_
  refine zd_iand E (pc := 9) d_M_after_9 ?_
  rw [bm_dif32]
  refine zd_aload_n E (pc := 10) d_M_after_10 rfl ?_
  refine zd_get E (pc := 11) d_M_after_11 kf_M_16 22 rfl rfl ?_
  refine zd_iload_n E (pc := 14) d_M_after_14 rfl ?_
  refine zd_iald E (pc := 15) d_M_after_15 25 rfl (t0 := 0) rfl (a) (rfl) (ha) (by decide) ?_
  rw [a1]
  refine zd_ior E (pc := 16) d_M_after_16 ?_
  rw [bm_or]
  exact zd_iret E (pc := 17) d_M_after_17 ⟨rfl, rfl⟩
set_option maxRecDepth 100000 in
set_option maxHeartbeats 4000000 in
theorem c_M_isMet (l : Launch) (D : va_G) {s : Nat} (t : tk_M v r nf na fi go co ne ad dr) : zd_Ct l D classes (wd_ty k) gd_T y_M_isMet b_M_isMet 2 (some .boolean) (zd_rm 0) [.ref (q 22), .int (nI s)] (wd k q v r ex) (zd_is (some (.int (nI (bm_b (tk_met go s))))) (wd k q v r ex)) := by
  refine zd_met gd_all (by decide) rfl (Nat.le_of_ble_eq_true rfl) (fun Z E => ?_)
  show Z (wd k q v r ex) [some (.ref (q 22)), some (.int (nI s))] 0 []
  obtain ⟨g1, g2⟩ := t.hgo
  have g1 : v 13 = nI go := g1
  have hlt : bm_dif go s < 2 ^ 31 := tk_dif_lt g2
  refine zd_aload_n E (pc := 0) d_M_isMet_0 rfl ?_
  refine zd_get E (pc := 1) d_M_isMet_1 kf_M_63 22 rfl rfl ?_
  rw [g1]
  refine zd_iload_n E (pc := 4) d_M_isMet_4 rfl ?_
  refine zd_iconst E (pc := 5) (v := (-1)) d_M_isMet_5 (by decide) ?_
  refine zd_ixor E (pc := 6) d_M_isMet_6 ?_
  refine zd_iand E (pc := 7) d_M_isMet_7 ?_
  rw [bm_dif32]
  refine zd_if_ne E (pc := 8) 15 d_M_isMet_8 (by decide) (fun h0 => ?_) (fun h0 => ?_)
  · have hf : tk_met go s = false := by
      unfold tk_met
      refine decide_eq_false fun z => h0 ?_
      rw [bm_dif0.mpr z]; rfl
    refine zd_iconst E (pc := 15) (v := (nI 0)) d_M_isMet_15 (by decide) ?_
    exact zd_zret E (pc := 16) d_M_isMet_16 (by decide) ⟨by rw [hf]; rfl, rfl⟩
  · have hf : tk_met go s = true := by
      unfold tk_met
      refine decide_eq_true (bm_dif0.mp ?_)
      have h0 := Classical.not_not.mp h0
      exact (nI_eq hlt (by decide)).mp (h0.trans nI_0.symm)
    refine zd_iconst E (pc := 11) (v := (nI 1)) d_M_isMet_11 (by decide) ?_
    refine zd_goto E (pc := 12) 16 d_M_isMet_12 (by decide) ?_
    exact zd_zret E (pc := 16) d_M_isMet_16 (by decide) ⟨by rw [hf]; rfl, rfl⟩
set_option maxRecDepth 100000 in
set_option maxHeartbeats 4000000 in
theorem c_M_told (l : Launch) (D : va_G) (tys : List (ClassId × FieldType)) (ws : va_W) {x : Nat} (hx : x < 2 ^ 31) : zd_Ct l D classes tys gd_T y_M_told b_M_told 1 (some .int) (zd_rm 0) [.int (nI x)] ws (zd_is (some (.int (if 1048576 ≤ x then -1 else nI x))) ws) := by
  refine zd_met gd_all (by decide) rfl (Nat.le_of_ble_eq_true rfl) (fun Z E => ?_)
  show Z ws [some (.int (nI x))] 0 []
  refine zd_iload_n E (pc := 0) d_M_told_0 rfl ?_
  refine zd_ldc E (pc := 1) (v := (nI 1048576)) d_M_told_1 kk_M_87 ?_
  refine zd_nc_lt E (pc := 3) 10 d_M_told_3 (by decide) (hx) ((by decide)) (fun h => ?_) (fun h => ?_)
  · refine zd_iload_n E (pc := 10) d_M_told_10 rfl ?_
    exact zd_iret E (pc := 11) d_M_told_11 ⟨by rw [if_neg (by omega)], rfl⟩
  · refine zd_iconst E (pc := 6) (v := (-1)) d_M_told_6 (by decide) ?_
    refine zd_goto E (pc := 7) 11 d_M_told_7 (by decide) ?_
    exact zd_iret E (pc := 11) d_M_told_11 ⟨by rw [if_pos h], rfl⟩
set_option maxRecDepth 100000 in
set_option maxHeartbeats 4000000 in
theorem c_M_reset (l : Launch) (D : va_G) : zd_Ct l D classes (wd_ty k) gd_T y_M_reset b_M_reset 1 none (zd_rm 0) [.ref (q 22)] (wd k q v r ex) (zd_is none (wd k q (upd (upd v 10 (nI 0)) 15 (v 12)) r ex)) := by
  refine zd_met gd_all (by decide) rfl (Nat.le_of_ble_eq_true rfl) (fun Z E => ?_)
  show Z (wd k q v r ex) [some (.ref (q 22))] 0 []
  refine zd_aload_n E (pc := 0) d_M_reset_0 rfl ?_
  refine zd_iconst E (pc := 1) (v := (nI 0)) d_M_reset_1 (by decide) ?_
  refine zd_put E (pc := 2) d_M_reset_2 kp_M_44 22 rfl (Nat.le_of_ble_eq_true rfl) (ws1 := wd k q (upd v 10 (nI 0)) r ex) rfl ?_
  refine zd_aload_n E (pc := 5) d_M_reset_5 rfl ?_
  refine zd_aload_n E (pc := 6) d_M_reset_6 rfl ?_
  refine zd_get E (pc := 7) d_M_reset_7 kf_M_57 22 rfl rfl ?_
  show Z (wd k q (upd v 10 (nI 0)) r ex) [some (.ref (q 22))] 10 [.int (v 12), .ref (q 22)]
  refine zd_put E (pc := 10) d_M_reset_10 kp_M_60 22 rfl (Nat.le_of_ble_eq_true rfl) (ws1 := wd k q (upd (upd v 10 (nI 0)) 15 (v 12)) r ex) rfl ?_
  exact zd_vret E (pc := 13) d_M_reset_13 ⟨rfl, rfl⟩
set_option maxRecDepth 100000 in
set_option maxHeartbeats 4000000 in
theorem c_M_wipe (l : Launch) (D : va_G) : zd_Ct l D classes (wd_ty k) gd_T y_M_wipe b_M_wipe 1 none (zd_rm 0) [.ref (q 22)] (wd k q v r ex) (zd_is none (wd k q (upd (upd v 10 (nI 0)) 17 (nI 0)) r ex)) := by
  refine zd_met gd_all (by decide) rfl (Nat.le_of_ble_eq_true rfl) (fun Z E => ?_)
  show Z (wd k q v r ex) [some (.ref (q 22))] 0 []
  refine zd_aload_n E (pc := 0) d_M_wipe_0 rfl ?_
  refine zd_iconst E (pc := 1) (v := (nI 0)) d_M_wipe_1 (by decide) ?_
  refine zd_put E (pc := 2) d_M_wipe_2 kp_M_44 22 rfl (Nat.le_of_ble_eq_true rfl) (ws1 := wd k q (upd v 10 (nI 0)) r ex) rfl ?_
  refine zd_aload_n E (pc := 5) d_M_wipe_5 rfl ?_
  refine zd_iconst E (pc := 6) (v := (nI 0)) d_M_wipe_6 (by decide) ?_
  refine zd_put E (pc := 7) d_M_wipe_7 kp_M_54 22 rfl (Nat.le_of_ble_eq_true rfl) (ws1 := wd k q (upd (upd v 10 (nI 0)) 17 (nI 0)) r ex) rfl ?_
  exact zd_vret E (pc := 10) d_M_wipe_10 ⟨rfl, rfl⟩
set_option maxRecDepth 100000 in
set_option maxHeartbeats 4000000 in
theorem c_M_length (l : Launch) (D : va_G) : zd_Ct l D classes (wd_ty k) gd_T y_M_length b_M_length 1 (some .int) (zd_rm 0) [.ref (q 22)] (wd k q v r ex) (zd_is (some (.int (v 16))) (wd k q (upd v 10 (nI 0)) r ex)) := by
  refine zd_met gd_all (by decide) rfl (Nat.le_of_ble_eq_true rfl) (fun Z E => ?_)
  show Z (wd k q v r ex) [some (.ref (q 22))] 0 []
  refine zd_aload_n E (pc := 0) d_M_length_0 rfl ?_
  refine zd_iconst E (pc := 1) (v := (nI 0)) d_M_length_1 (by decide) ?_
  refine zd_put E (pc := 2) d_M_length_2 kp_M_44 22 rfl (Nat.le_of_ble_eq_true rfl) (ws1 := wd k q (upd v 10 (nI 0)) r ex) rfl ?_
  refine zd_aload_n E (pc := 5) d_M_length_5 rfl ?_
  refine zd_get E (pc := 6) d_M_length_6 kf_M_91 22 rfl rfl ?_
  exact zd_iret E (pc := 9) d_M_length_9 ⟨rfl, rfl⟩
set_option maxRecDepth 100000 in
set_option maxHeartbeats 4000000 in
theorem c_M_step (l : Launch) (D : va_G) {n : Nat} (x : Int32) (hv : v 16 = nI n) (hn : n ≤ 1024) : zd_Ct l D classes (wd_ty k) gd_T y_M_step b_M_step 2 (some .int) (zd_rm 0) [.ref (q 22), .int x] (wd k q v r ex)
    (fun v1 w1 => ((∃ j, j < n ∧ x = nI j ∧ v1 = some (.int (r 27 j))) ∨ ((x < 0 ∨ nI n ≤ x) ∧ v1 = some (.int (-1)))) ∧ w1 = wd k q (upd v 10 (nI 0)) r ex) := by
  refine zd_met gd_all (by decide) rfl (Nat.le_of_ble_eq_true rfl) (fun Z E => ?_)
  show Z (wd k q v r ex) [some (.ref (q 22)), some (.int x)] 0 []
  have out : (x < 0 ∨ nI n ≤ x) → Z (wd k q (upd v 10 (nI 0)) r ex) [some (.ref (q 22)), some (.int x)] 17 [] := by
    intro hx
    refine zd_iconst E (pc := 17) (v := (-1)) d_M_step_17 (by decide) ?_
    refine zd_goto E (pc := 18) 27 d_M_step_18 (by decide) ?_
    exact zd_iret E (pc := 27) d_M_step_27 ⟨Or.inr ⟨hx, rfl⟩, rfl⟩
  refine zd_aload_n E (pc := 0) d_M_step_0 rfl ?_
  refine zd_iconst E (pc := 1) (v := (nI 0)) d_M_step_1 (by decide) ?_
  refine zd_put E (pc := 2) d_M_step_2 kp_M_44 22 rfl (Nat.le_of_ble_eq_true rfl) (ws1 := wd k q (upd v 10 (nI 0)) r ex) rfl ?_
  refine zd_iload_n E (pc := 5) d_M_step_5 rfl ?_
  refine zd_if_lt E (pc := 6) 17 d_M_step_6 (by decide) (fun h0 => ?_) (fun h0 => ?_)
  · exact out (Or.inl h0)
  · refine zd_iload_n E (pc := 9) d_M_step_9 rfl ?_
    refine zd_aload_n E (pc := 10) d_M_step_10 rfl ?_
    refine zd_get E (pc := 11) d_M_step_11 kf_M_91 22 rfl rfl ?_
    show Z (wd k q (upd v 10 (nI 0)) r ex) [some (.ref (q 22)), some (.int x)] 14 [.int (v 16), .int x]
    rw [hv]
    refine zd_ic_lt E (pc := 14) 21 d_M_step_14 (by decide) (fun h1 => ?_) (fun h1 => ?_)
    · rcases pk_ix x (n := n) (by omega) with z | z | ⟨j, hj, rfl⟩
      · exact absurd z h0
      · exact absurd h1 (by rw [Int32.lt_iff_toInt_lt]; rw [Int32.le_iff_toInt_le] at z; omega)
      · refine zd_aload_n E (pc := 21) d_M_step_21 rfl ?_
        refine zd_get E (pc := 22) d_M_step_22 kf_M_22 22 rfl rfl ?_
        refine zd_iload_n E (pc := 25) d_M_step_25 rfl ?_
        refine zd_iald E (pc := 26) d_M_step_26 27 rfl (t0 := 0) rfl (j) (rfl) ((by omega)) (by decide) ?_
        exact zd_iret E (pc := 27) d_M_step_27 ⟨Or.inl ⟨j, hj, rfl, rfl⟩, rfl⟩
    · refine out (Or.inr ?_)
      rw [Int32.le_iff_toInt_le]; rw [Int32.lt_iff_toInt_lt] at h1; omega
end M1
end
section
/-! The reference: fact, action, link, holds, applicable, apply, draft, check, cost. -/
theorem bm_1ne0 : ¬ nI 1 ≤ 0 := by decide
/-- a number that is out of the places below n is none of them -/
theorem bm_out {x : Int32} {n j : Nat} (h : x < 0 ∨ nI n ≤ x) (hn : n < 100) (hj : j < n) : x ≠ nI j := by
  rintro rfl
  rcases h with h | h
  · exact nI_pos (by omega) h
  · have := (nI_leI (show n < 2 ^ 31 by omega) (show j < 2 ^ 31 by omega)).mp h
    omega
section M2
variable {k : Nat → ClassId} {q : Nat → Nat} {v : Nat → Int32} {r : Nat → Nat → Int32} {ex : va_W} {nf na fi go : Nat} {co ne ad dr : Nat → Nat}
set_option maxRecDepth 100000 in
set_option maxHeartbeats 4000000 in
theorem c_M_fact (l : Launch) (D : va_G) {b1 b2 : Bool} (t : tk_M v r nf na fi go co ne ad dr) (hn : nf < 10) : zd_Ct l D classes (wd_ty k) gd_T y_M_fact b_M_fact 4 (some .int) (zd_rm 1) [.ref (q 22), .int (nI (bm_b b1)), .int (nI (bm_b b2))] (wd k q v r ex)
    (fun v1 w1 => ∃ v2 : Nat → Int32, (∀ i, i ≠ 10 → i ≠ 11 → i ≠ 12 → i ≠ 13 → i ≠ 15 → i ≠ 17 → v2 i = v i) ∧ v2 10 = nI 0 ∧ v2 11 = nI (nf + 1) ∧ v2 12 = nI (if b1 = true then fi ||| 2 ^ nf else fi) ∧ v2 13 = nI (if b2 = true then go ||| 2 ^ nf else go) ∧ v2 17 = nI 0 ∧ v2 15 = nI (if b1 = true then fi ||| 2 ^ nf else fi) ∧ v1 = some (.int (nI nf)) ∧ w1 = wd k q v2 r ex) := by
  refine zd_met gd_all (by decide) rfl (Nat.le_of_ble_eq_true rfl) (fun Z E => ?_)
  show Z (wd k q v r ex) [some (.ref (q 22)), some (.int (nI (bm_b b1))), some (.int (nI (bm_b b2))), none] 0 []
  obtain ⟨⟨h0, h1, h2, h3⟩, -, ⟨hnf, -⟩, -⟩ := t
  have h0 : v 11 = nI nf := h0
  have h2 : v 12 = nI fi := h2
  have h3 : v 13 = nI go := h3
  have p3 : ∀ v2 : Nat → Int32, (∀ i, i ≠ 10 → i ≠ 12 → i ≠ 13 → v2 i = v i) → v2 10 = nI 0 → v2 12 = nI (if b1 = true then fi ||| 2 ^ nf else fi) → v2 13 = nI (if b2 = true then go ||| 2 ^ nf else go) → Z (wd k q v2 r ex) [some (.ref (q 22)), some (.int (nI (bm_b b1))), some (.int (nI (bm_b b2))), some (.int (nI (2 ^ nf)))] 76 [] := by
    intro v2 hf g10 g12 g13
    have g11 : v2 11 = nI nf := (hf 11 (by decide) (by decide) (by decide)).trans h0
    refine zd_aload_n E (pc := 76) d_M_fact_76 rfl ?_
    refine zd_dup E (pc := 77) d_M_fact_77 rfl ?_
    refine zd_get E (pc := 78) d_M_fact_78 kf_M_48 22 rfl rfl ?_
    rw [g11]
    refine zd_iconst E (pc := 81) (v := (nI 1)) d_M_fact_81 (by decide) ?_
    refine zd_iadd E (pc := 82) d_M_fact_82 ?_
    rw [nI_add]
    refine zd_put E (pc := 83) d_M_fact_83 kp_M_48 22 rfl (Nat.le_of_ble_eq_true rfl) (ws1 := wd k q (upd v2 11 (nI (nf + 1))) r ex) rfl ?_
    refine zd_aload_n E (pc := 86) d_M_fact_86 rfl ?_
    refine zd_callV E (pc := 87) d_M_fact_87 kc_M_66 rfl ki_M_changed ke_M_changed 22 rfl rfl (c_M_changed l D) (by decide) rfl (Nat.le_of_ble_eq_true rfl) (fun v1 ws1 hv1 => ?_)
    obtain ⟨rfl, rfl⟩ := hv1
    refine zd_aload_n E (pc := 90) d_M_fact_90 rfl ?_
    refine zd_get E (pc := 91) d_M_fact_91 kf_M_48 22 rfl rfl ?_
    show Z (wd k q (upd (upd (upd v2 11 (nI (nf + 1))) 17 (nI 0)) 15 (v2 12)) r ex) _ 94 [.int (nI (nf + 1))]
    refine zd_iconst E (pc := 94) (v := (nI 1)) d_M_fact_94 (by decide) ?_
    refine zd_isub E (pc := 95) d_M_fact_95 ?_
    rw [pk_sub (by omega)]
    exact zd_iret E (pc := 96) d_M_fact_96 ⟨upd (upd (upd v2 11 (nI (nf + 1))) 17 (nI 0)) 15 (v2 12), fun i a b c d e f => by rw [pk_un e, pk_un f, pk_un b]; exact hf i a c d, g10, rfl, g12, g13, rfl, g12, rfl, rfl⟩
  have p2 : ∀ v2 : Nat → Int32, (∀ i, i ≠ 10 → i ≠ 12 → i ≠ 13 → v2 i = v i) → v2 10 = nI 0 → v2 12 = nI (if b1 = true then fi ||| 2 ^ nf else fi) → v2 13 = nI go → Z (wd k q v2 r ex) [some (.ref (q 22)), some (.int (nI (bm_b b1))), some (.int (nI (bm_b b2))), some (.int (nI (2 ^ nf)))] 55 [] := by
    intro v2 hf g10 g12 g13
    refine zd_aload_n E (pc := 55) d_M_fact_55 rfl ?_
    refine zd_iload_n E (pc := 56) d_M_fact_56 rfl ?_
    refine zd_bf_eq E (pc := 57) 69 d_M_fact_57 (by decide) (fun hb => ?_) (fun hb => ?_)
    · refine zd_aload_n E (pc := 69) d_M_fact_69 rfl ?_
      refine zd_get E (pc := 70) d_M_fact_70 kf_M_63 22 rfl rfl ?_
      rw [g13]
      refine zd_put E (pc := 73) d_M_fact_73 kp_M_63 22 rfl (Nat.le_of_ble_eq_true rfl) (ws1 := wd k q (upd v2 13 (nI go)) r ex) rfl ?_
      exact p3 _ (fun i a b c => by rw [pk_un c]; exact hf i a b c) g10 g12 (by rw [pk_us, if_neg hb])
    · refine zd_aload_n E (pc := 60) d_M_fact_60 rfl ?_
      refine zd_get E (pc := 61) d_M_fact_61 kf_M_63 22 rfl rfl ?_
      rw [g13]
      refine zd_iload_n E (pc := 64) d_M_fact_64 rfl ?_
      refine zd_ior E (pc := 65) d_M_fact_65 ?_
      rw [bm_or]
      refine zd_goto E (pc := 66) 73 d_M_fact_66 (by decide) ?_
      refine zd_put E (pc := 73) d_M_fact_73 kp_M_63 22 rfl (Nat.le_of_ble_eq_true rfl) (ws1 := wd k q (upd v2 13 (nI (go ||| 2 ^ nf))) r ex) rfl ?_
      exact p3 _ (fun i a b c => by rw [pk_un c]; exact hf i a b c) g10 g12 (by rw [pk_us, if_pos hb])
  have f0 : ∀ i, i ≠ 10 → upd v 10 (nI 0) i = v i := fun i hi => pk_un hi
  refine zd_aload_n E (pc := 0) d_M_fact_0 rfl ?_
  refine zd_aload_n E (pc := 1) d_M_fact_1 rfl ?_
  refine zd_get E (pc := 2) d_M_fact_2 kf_M_48 22 rfl rfl ?_
  rw [h0]
  refine zd_bipush E (pc := 5) (v := (nI 10)) d_M_fact_5 (by decide) ?_
  refine zd_nc_ne E (pc := 7) 14 d_M_fact_7 (by decide) ((by omega)) ((by omega)) (fun hq => ?_) (fun hq => ?_)
  · refine zd_iconst E (pc := 14) (v := (nI 0)) d_M_fact_14 (by decide) ?_
    refine zd_put E (pc := 15) d_M_fact_15 kp_M_44 22 rfl (Nat.le_of_ble_eq_true rfl) (ws1 := wd k q (upd v 10 (nI 0)) r ex) rfl ?_
    refine zd_aload_n E (pc := 18) d_M_fact_18 rfl ?_
    refine zd_get E (pc := 19) d_M_fact_19 kf_M_44 22 rfl rfl ?_
    refine zd_if_le E (pc := 22) 27 d_M_fact_22 (by decide) (fun hc => ?_) (fun hc => ?_)
    · refine zd_iconst E (pc := 27) (v := (nI 1)) d_M_fact_27 (by decide) ?_
      refine zd_aload_n E (pc := 28) d_M_fact_28 rfl ?_
      refine zd_get E (pc := 29) d_M_fact_29 kf_M_48 22 rfl rfl ?_
      show Z (wd k q (upd v 10 (nI 0)) r ex) _ 32 [.int (v 11), .int (nI 1)]
      rw [h0]
      refine zd_ishl E (pc := 32) d_M_fact_32 ?_
      rw [bm_one (by omega)]
      refine zd_istore_n E (pc := 33) d_M_fact_33 (by decide) ?_
      refine zd_aload_n E (pc := 34) d_M_fact_34 rfl ?_
      refine zd_iload_n E (pc := 35) d_M_fact_35 rfl ?_
      refine zd_bf_eq E (pc := 36) 48 d_M_fact_36 (by decide) (fun hb => ?_) (fun hb => ?_)
      · refine zd_aload_n E (pc := 48) d_M_fact_48 rfl ?_
        refine zd_get E (pc := 49) d_M_fact_49 kf_M_57 22 rfl rfl ?_
        show Z (wd k q (upd v 10 (nI 0)) r ex) _ 52 [.int (v 12), .ref (q 22)]
        rw [h2]
        refine zd_put E (pc := 52) d_M_fact_52 kp_M_57 22 rfl (Nat.le_of_ble_eq_true rfl) (ws1 := wd k q (upd (upd v 10 (nI 0)) 12 (nI fi)) r ex) rfl ?_
        exact p2 _ (fun i a b c => by rw [pk_un b, pk_un a]) rfl (by rw [pk_us, if_neg hb]) h3
      · refine zd_aload_n E (pc := 39) d_M_fact_39 rfl ?_
        refine zd_get E (pc := 40) d_M_fact_40 kf_M_57 22 rfl rfl ?_
        show Z (wd k q (upd v 10 (nI 0)) r ex) _ 43 [.int (v 12), .ref (q 22)]
        rw [h2]
        refine zd_iload_n E (pc := 43) d_M_fact_43 rfl ?_
        refine zd_ior E (pc := 44) d_M_fact_44 ?_
        rw [bm_or]
        refine zd_goto E (pc := 45) 52 d_M_fact_45 (by decide) ?_
        refine zd_put E (pc := 52) d_M_fact_52 kp_M_57 22 rfl (Nat.le_of_ble_eq_true rfl) (ws1 := wd k q (upd (upd v 10 (nI 0)) 12 (nI (fi ||| 2 ^ nf))) r ex) rfl ?_
        exact p2 _ (fun i a b c => by rw [pk_un b, pk_un a]) rfl (by rw [pk_us, if_pos hb]) h3
    · exact absurd (show nI 0 ≤ 0 by decide) hc
  · omega
set_option maxRecDepth 100000 in
set_option maxHeartbeats 4000000 in
theorem c_M_fact1 (l : Launch) (D : va_G) (x y : Int32) (h0 : v 11 = nI 10) : zd_Ct l D classes (wd_ty k) gd_T y_M_fact b_M_fact 4 (some .int) (zd_rm 1) [.ref (q 22), .int x, .int y] (wd k q v r ex) (zd_is (some (.int (nI 0))) (wd k q (upd v 10 (nI 1)) r ex)) := by
  refine zd_met gd_all (by decide) rfl (Nat.le_of_ble_eq_true rfl) (fun Z E => ?_)
  show Z (wd k q v r ex) [some (.ref (q 22)), some (.int x), some (.int y), none] 0 []
  refine zd_aload_n E (pc := 0) d_M_fact_0 rfl ?_
  refine zd_aload_n E (pc := 1) d_M_fact_1 rfl ?_
  refine zd_get E (pc := 2) d_M_fact_2 kf_M_48 22 rfl rfl ?_
  rw [h0]
  refine zd_bipush E (pc := 5) (v := (nI 10)) d_M_fact_5 (by decide) ?_
  refine zd_nc_ne E (pc := 7) 14 d_M_fact_7 (by decide) ((by decide)) ((by decide)) (fun hq => ?_) (fun hq => ?_)
  · exact absurd rfl hq
  · refine zd_iconst E (pc := 10) (v := (nI 1)) d_M_fact_10 (by decide) ?_
    refine zd_goto E (pc := 11) 15 d_M_fact_11 (by decide) ?_
    refine zd_put E (pc := 15) d_M_fact_15 kp_M_44 22 rfl (Nat.le_of_ble_eq_true rfl) (ws1 := wd k q (upd v 10 (nI 1)) r ex) rfl ?_
    refine zd_aload_n E (pc := 18) d_M_fact_18 rfl ?_
    refine zd_get E (pc := 19) d_M_fact_19 kf_M_44 22 rfl rfl ?_
    refine zd_if_le E (pc := 22) 27 d_M_fact_22 (by decide) (fun hc => ?_) (fun hc => ?_)
    · exact absurd hc bm_1ne0
    · refine zd_iconst E (pc := 25) (v := (nI 0)) d_M_fact_25 (by decide) ?_
      exact zd_iret E (pc := 26) d_M_fact_26 ⟨rfl, rfl⟩
set_option maxRecDepth 100000 in
set_option maxHeartbeats 4000000 in
theorem c_M_action (l : Launch) (D : va_G) {p : Nat} (t : tk_M v r nf na fi go co ne ad dr) (hn : na < 12) (hp1 : 1 ≤ p) (hp9 : p ≤ 9) : zd_Ct l D classes (wd_ty k) gd_T y_M_action b_M_action 2 (some .int) (zd_rm 1) [.ref (q 22), .int (nI p)] (wd k q v r ex)
    (zd_is (some (.int (nI na))) (wd k q (upd (upd (upd (upd v 10 (nI 0)) 14 (nI (na + 1))) 17 (nI 0)) 15 (v 12)) (va_up (va_up (va_up (va_up r 23 (upd (r 23) na (nI p))) 24 (upd (r 24) na (nI 0))) 25 (upd (r 25) na (nI 0))) 26 (upd (r 26) na (nI 0))) ex)) := by
  refine zd_met gd_all (by decide) rfl (Nat.le_of_ble_eq_true rfl) (fun Z E => ?_)
  show Z (wd k q v r ex) [some (.ref (q 22)), some (.int (nI p))] 0 []
  have h1 : v 14 = nI na := t.hna.1
  refine zd_aload_n E (pc := 0) d_M_action_0 rfl ?_
  refine zd_iload_n E (pc := 1) d_M_action_1 rfl ?_
  refine zd_iconst E (pc := 2) (v := (nI 1)) d_M_action_2 (by decide) ?_
  refine zd_nc_lt E (pc := 3) 12 d_M_action_3 (by decide) ((by omega)) ((by omega)) (fun hq => ?_) (fun hq => ?_)
  · omega
  · refine zd_iload_n E (pc := 6) d_M_action_6 rfl ?_
    refine zd_bipush E (pc := 7) (v := (nI 9)) d_M_action_7 (by decide) ?_
    refine zd_nc_le E (pc := 9) 16 d_M_action_9 (by decide) ((by omega)) ((by omega)) (fun hq2 => ?_) (fun hq2 => ?_)
    · refine zd_aload_n E (pc := 16) d_M_action_16 rfl ?_
      refine zd_get E (pc := 17) d_M_action_17 kf_M_51 22 rfl rfl ?_
      rw [h1]
      refine zd_bipush E (pc := 20) (v := (nI 12)) d_M_action_20 (by decide) ?_
      refine zd_nc_ne E (pc := 22) 29 d_M_action_22 (by decide) ((by omega)) ((by omega)) (fun hq3 => ?_) (fun hq3 => ?_)
      · refine zd_iconst E (pc := 29) (v := (nI 0)) d_M_action_29 (by decide) ?_
        refine zd_put E (pc := 30) d_M_action_30 kp_M_44 22 rfl (Nat.le_of_ble_eq_true rfl) (ws1 := wd k q (upd v 10 (nI 0)) r ex) rfl ?_
        refine zd_aload_n E (pc := 33) d_M_action_33 rfl ?_
        refine zd_get E (pc := 34) d_M_action_34 kf_M_44 22 rfl rfl ?_
        refine zd_if_le E (pc := 37) 42 d_M_action_37 (by decide) (fun hc => ?_) (fun hc => ?_)
        · refine zd_aload_n E (pc := 42) d_M_action_42 rfl ?_
          refine zd_get E (pc := 43) d_M_action_43 kf_M_7 22 rfl rfl ?_
          refine zd_aload_n E (pc := 46) d_M_action_46 rfl ?_
          refine zd_get E (pc := 47) d_M_action_47 kf_M_51 22 rfl rfl ?_
          show Z (wd k q (upd v 10 (nI 0)) r ex) _ 50 [.int (v 14), .ref (q 23)]
          rw [h1]
          refine zd_iload_n E (pc := 50) d_M_action_50 rfl ?_
          refine zd_iast E (pc := 51) d_M_action_51 23 rfl (t0 := 0) rfl (na) (rfl) (hn) (by decide) (ws1 := wd k q (upd v 10 (nI 0)) (va_up r 23 (upd (r 23) na (nI p))) ex) rfl ?_
          refine zd_aload_n E (pc := 52) d_M_action_52 rfl ?_
          refine zd_get E (pc := 53) d_M_action_53 kf_M_13 22 rfl rfl ?_
          refine zd_aload_n E (pc := 56) d_M_action_56 rfl ?_
          refine zd_get E (pc := 57) d_M_action_57 kf_M_51 22 rfl rfl ?_
          show Z (wd k q (upd v 10 (nI 0)) (va_up r 23 (upd (r 23) na (nI p))) ex) _ 60 [.int (v 14), .ref (q 24)]
          rw [h1]
          refine zd_iconst E (pc := 60) (v := (nI 0)) d_M_action_60 (by decide) ?_
          refine zd_iast E (pc := 61) d_M_action_61 24 rfl (t0 := 0) rfl (na) (rfl) (hn) (by decide) (ws1 := wd k q (upd v 10 (nI 0)) (va_up (va_up r 23 (upd (r 23) na (nI p))) 24 (upd (r 24) na (nI 0))) ex) rfl ?_
          refine zd_aload_n E (pc := 62) d_M_action_62 rfl ?_
          refine zd_get E (pc := 63) d_M_action_63 kf_M_16 22 rfl rfl ?_
          refine zd_aload_n E (pc := 66) d_M_action_66 rfl ?_
          refine zd_get E (pc := 67) d_M_action_67 kf_M_51 22 rfl rfl ?_
          show Z (wd k q (upd v 10 (nI 0)) (va_up (va_up r 23 (upd (r 23) na (nI p))) 24 (upd (r 24) na (nI 0))) ex) _ 70 [.int (v 14), .ref (q 25)]
          rw [h1]
          refine zd_iconst E (pc := 70) (v := (nI 0)) d_M_action_70 (by decide) ?_
          refine zd_iast E (pc := 71) d_M_action_71 25 rfl (t0 := 0) rfl (na) (rfl) (hn) (by decide) (ws1 := wd k q (upd v 10 (nI 0)) (va_up (va_up (va_up r 23 (upd (r 23) na (nI p))) 24 (upd (r 24) na (nI 0))) 25 (upd (r 25) na (nI 0))) ex) rfl ?_
          refine zd_aload_n E (pc := 72) d_M_action_72 rfl ?_
          refine zd_get E (pc := 73) d_M_action_73 kf_M_19 22 rfl rfl ?_
          refine zd_aload_n E (pc := 76) d_M_action_76 rfl ?_
          refine zd_get E (pc := 77) d_M_action_77 kf_M_51 22 rfl rfl ?_
          show Z (wd k q (upd v 10 (nI 0)) (va_up (va_up (va_up r 23 (upd (r 23) na (nI p))) 24 (upd (r 24) na (nI 0))) 25 (upd (r 25) na (nI 0))) ex) _ 80 [.int (v 14), .ref (q 26)]
          rw [h1]
          refine zd_iconst E (pc := 80) (v := (nI 0)) d_M_action_80 (by decide) ?_
          refine zd_iast E (pc := 81) d_M_action_81 26 rfl (t0 := 0) rfl (na) (rfl) (hn) (by decide) (ws1 := wd k q (upd v 10 (nI 0)) (va_up (va_up (va_up (va_up r 23 (upd (r 23) na (nI p))) 24 (upd (r 24) na (nI 0))) 25 (upd (r 25) na (nI 0))) 26 (upd (r 26) na (nI 0))) ex) rfl ?_
          refine zd_aload_n E (pc := 82) d_M_action_82 rfl ?_
          refine zd_dup E (pc := 83) d_M_action_83 rfl ?_
          refine zd_get E (pc := 84) d_M_action_84 kf_M_51 22 rfl rfl ?_
          show Z (wd k q (upd v 10 (nI 0)) (va_up (va_up (va_up (va_up r 23 (upd (r 23) na (nI p))) 24 (upd (r 24) na (nI 0))) 25 (upd (r 25) na (nI 0))) 26 (upd (r 26) na (nI 0))) ex) _ 87 [.int (v 14), .ref (q 22)]
          rw [h1]
          refine zd_iconst E (pc := 87) (v := (nI 1)) d_M_action_87 (by decide) ?_
          refine zd_iadd E (pc := 88) d_M_action_88 ?_
          rw [nI_add]
          refine zd_put E (pc := 89) d_M_action_89 kp_M_51 22 rfl (Nat.le_of_ble_eq_true rfl) (ws1 := wd k q (upd (upd v 10 (nI 0)) 14 (nI (na + 1))) (va_up (va_up (va_up (va_up r 23 (upd (r 23) na (nI p))) 24 (upd (r 24) na (nI 0))) 25 (upd (r 25) na (nI 0))) 26 (upd (r 26) na (nI 0))) ex) rfl ?_
          refine zd_aload_n E (pc := 92) d_M_action_92 rfl ?_
          refine zd_callV E (pc := 93) d_M_action_93 kc_M_66 rfl ki_M_changed ke_M_changed 22 rfl rfl (c_M_changed l D) (by decide) rfl (Nat.le_of_ble_eq_true rfl) (fun v1 ws1 hv1 => ?_)
          obtain ⟨rfl, rfl⟩ := hv1
          refine zd_aload_n E (pc := 96) d_M_action_96 rfl ?_
          refine zd_get E (pc := 97) d_M_action_97 kf_M_51 22 rfl rfl ?_
          show Z (wd k q (upd (upd (upd (upd v 10 (nI 0)) 14 (nI (na + 1))) 17 (nI 0)) 15 (v 12)) (va_up (va_up (va_up (va_up r 23 (upd (r 23) na (nI p))) 24 (upd (r 24) na (nI 0))) 25 (upd (r 25) na (nI 0))) 26 (upd (r 26) na (nI 0))) ex) _ 100 [.int (nI (na + 1))]
          refine zd_iconst E (pc := 100) (v := (nI 1)) d_M_action_100 (by decide) ?_
          refine zd_isub E (pc := 101) d_M_action_101 ?_
          rw [pk_sub (by omega)]
          exact zd_iret E (pc := 102) d_M_action_102 ⟨rfl, rfl⟩
        · exact absurd (show nI 0 ≤ 0 by decide) hc
      · omega
    · omega
set_option maxRecDepth 100000 in
set_option maxHeartbeats 4000000 in
theorem c_M_action1 (l : Launch) (D : va_G) (x : Int32) (hx : x < nI 1 ∨ nI 9 < x) : zd_Ct l D classes (wd_ty k) gd_T y_M_action b_M_action 2 (some .int) (zd_rm 1) [.ref (q 22), .int x] (wd k q v r ex) (zd_is (some (.int (nI 0))) (wd k q (upd v 10 (nI 1)) r ex)) := by
  refine zd_met gd_all (by decide) rfl (Nat.le_of_ble_eq_true rfl) (fun Z E => ?_)
  show Z (wd k q v r ex) [some (.ref (q 22)), some (.int x)] 0 []
  have out : Z (wd k q v r ex) [some (.ref (q 22)), some (.int x)] 12 [.ref (q 22)] := by
    refine zd_iconst E (pc := 12) (v := (nI 1)) d_M_action_12 (by decide) ?_
    refine zd_goto E (pc := 13) 30 d_M_action_13 (by decide) ?_
    refine zd_put E (pc := 30) d_M_action_30 kp_M_44 22 rfl (Nat.le_of_ble_eq_true rfl) (ws1 := wd k q (upd v 10 (nI 1)) r ex) rfl ?_
    refine zd_aload_n E (pc := 33) d_M_action_33 rfl ?_
    refine zd_get E (pc := 34) d_M_action_34 kf_M_44 22 rfl rfl ?_
    refine zd_if_le E (pc := 37) 42 d_M_action_37 (by decide) (fun hc => ?_) (fun hc => ?_)
    · exact absurd hc bm_1ne0
    · refine zd_iconst E (pc := 40) (v := (nI 0)) d_M_action_40 (by decide) ?_
      exact zd_iret E (pc := 41) d_M_action_41 ⟨rfl, rfl⟩
  refine zd_aload_n E (pc := 0) d_M_action_0 rfl ?_
  refine zd_iload_n E (pc := 1) d_M_action_1 rfl ?_
  refine zd_iconst E (pc := 2) (v := (nI 1)) d_M_action_2 (by decide) ?_
  refine zd_ic_lt E (pc := 3) 12 d_M_action_3 (by decide) (fun hq => ?_) (fun hq => ?_)
  · exact out
  · refine zd_iload_n E (pc := 6) d_M_action_6 rfl ?_
    refine zd_bipush E (pc := 7) (v := (nI 9)) d_M_action_7 (by decide) ?_
    refine zd_ic_le E (pc := 9) 16 d_M_action_9 (by decide) (fun hq2 => ?_) (fun hq2 => ?_)
    · rcases hx with z | z
      · exact absurd z hq
      · rw [Int32.lt_iff_toInt_lt] at z
        rw [Int32.le_iff_toInt_le] at hq2
        omega
    · exact out
set_option maxRecDepth 100000 in
set_option maxHeartbeats 4000000 in
theorem c_M_action2 (l : Launch) (D : va_G) {p : Nat} (hp1 : 1 ≤ p) (hp9 : p ≤ 9) (h1 : v 14 = nI 12) : zd_Ct l D classes (wd_ty k) gd_T y_M_action b_M_action 2 (some .int) (zd_rm 1) [.ref (q 22), .int (nI p)] (wd k q v r ex) (zd_is (some (.int (nI 0))) (wd k q (upd v 10 (nI 2)) r ex)) := by
  refine zd_met gd_all (by decide) rfl (Nat.le_of_ble_eq_true rfl) (fun Z E => ?_)
  show Z (wd k q v r ex) [some (.ref (q 22)), some (.int (nI p))] 0 []
  refine zd_aload_n E (pc := 0) d_M_action_0 rfl ?_
  refine zd_iload_n E (pc := 1) d_M_action_1 rfl ?_
  refine zd_iconst E (pc := 2) (v := (nI 1)) d_M_action_2 (by decide) ?_
  refine zd_nc_lt E (pc := 3) 12 d_M_action_3 (by decide) ((by omega)) ((by omega)) (fun hq => ?_) (fun hq => ?_)
  · omega
  · refine zd_iload_n E (pc := 6) d_M_action_6 rfl ?_
    refine zd_bipush E (pc := 7) (v := (nI 9)) d_M_action_7 (by decide) ?_
    refine zd_nc_le E (pc := 9) 16 d_M_action_9 (by decide) ((by omega)) ((by omega)) (fun hq2 => ?_) (fun hq2 => ?_)
    · refine zd_aload_n E (pc := 16) d_M_action_16 rfl ?_
      refine zd_get E (pc := 17) d_M_action_17 kf_M_51 22 rfl rfl ?_
      rw [h1]
      refine zd_bipush E (pc := 20) (v := (nI 12)) d_M_action_20 (by decide) ?_
      refine zd_nc_ne E (pc := 22) 29 d_M_action_22 (by decide) ((by decide)) ((by decide)) (fun hq3 => ?_) (fun hq3 => ?_)
      · exact absurd rfl hq3
      · refine zd_iconst E (pc := 25) (v := (nI 2)) d_M_action_25 (by decide) ?_
        refine zd_goto E (pc := 26) 30 d_M_action_26 (by decide) ?_
        refine zd_put E (pc := 30) d_M_action_30 kp_M_44 22 rfl (Nat.le_of_ble_eq_true rfl) (ws1 := wd k q (upd v 10 (nI 2)) r ex) rfl ?_
        refine zd_aload_n E (pc := 33) d_M_action_33 rfl ?_
        refine zd_get E (pc := 34) d_M_action_34 kf_M_44 22 rfl rfl ?_
        refine zd_if_le E (pc := 37) 42 d_M_action_37 (by decide) (fun hc => ?_) (fun hc => ?_)
        · exact absurd hc (show ¬ nI 2 ≤ 0 by decide)
        · refine zd_iconst E (pc := 40) (v := (nI 0)) d_M_action_40 (by decide) ?_
          exact zd_iret E (pc := 41) d_M_action_41 ⟨rfl, rfl⟩
    · omega
set_option maxRecDepth 100000 in
set_option maxHeartbeats 4000000 in
theorem c_M_link1 (l : Launch) (D : va_G) (w x y : Int32) (t : tk_M v r nf na fi go co ne ad dr) (hb : (x < 0 ∨ nI na ≤ x) ∨ (y < 0 ∨ nI nf ≤ y)) : zd_Ct l D classes (wd_ty k) gd_T y_M_link b_M_link 6 none (zd_rm 1) [.ref (q 22), .int w, .int x, .int y] (wd k q v r ex) (zd_is none (wd k q (upd v 10 (nI 1)) r ex)) := by
  refine zd_met gd_all (by decide) rfl (Nat.le_of_ble_eq_true rfl) (fun Z E => ?_)
  show Z (wd k q v r ex) [some (.ref (q 22)), some (.int w), some (.int x), some (.int y), none, none] 0 []
  have hna := t.hna.2
  have hnf := t.2.2.1.1
  have out : Z (wd k q v r ex) [some (.ref (q 22)), some (.int w), some (.int x), some (.int y), none, none] 17 [.ref (q 22)] := by
    refine zd_iconst E (pc := 17) (v := (nI 1)) d_M_link_17 (by decide) ?_
    refine zd_goto E (pc := 18) 35 d_M_link_18 (by decide) ?_
    refine zd_put E (pc := 35) d_M_link_35 kp_M_44 22 rfl (Nat.le_of_ble_eq_true rfl) (ws1 := wd k q (upd v 10 (nI 1)) r ex) rfl ?_
    refine zd_aload_n E (pc := 38) d_M_link_38 rfl ?_
    refine zd_get E (pc := 39) d_M_link_39 kf_M_44 22 rfl rfl ?_
    refine zd_if_le E (pc := 42) 46 d_M_link_42 (by decide) (fun hc => ?_) (fun hc => ?_)
    · exact absurd hc bm_1ne0
    · exact zd_vret E (pc := 45) d_M_link_45 ⟨rfl, rfl⟩
  refine zd_aload_n E (pc := 0) d_M_link_0 rfl ?_
  refine zd_aload_n E (pc := 1) d_M_link_1 rfl ?_
  refine zd_iload_n E (pc := 2) d_M_link_2 rfl ?_
  refine zd_callV E (pc := 3) d_M_link_3 kc_M_69 rfl ki_M_noAction ke_M_noAction 22 rfl rfl (c_M_noAction l D x t.hna.1 (by omega)) (by decide) rfl (Nat.le_of_ble_eq_true rfl) (fun v1 ws1 hv1 => ?_)
  obtain ⟨b, hc, rfl, rfl⟩ := hv1
  refine zd_bf_ne E (pc := 6) 17 d_M_link_6 (by decide) (fun h0 => ?_) (fun h0 => ?_)
  · exact out
  · refine zd_aload_n E (pc := 9) d_M_link_9 rfl ?_
    refine zd_iload_n E (pc := 10) d_M_link_10 rfl ?_
    refine zd_callV E (pc := 11) d_M_link_11 kc_M_73 rfl ki_M_noFact ke_M_noFact 22 rfl rfl (c_M_noFact l D y t.1.1 (by omega)) (by decide) rfl (Nat.le_of_ble_eq_true rfl) (fun v1 ws1 hv1 => ?_)
    obtain ⟨b2, hc2, rfl, rfl⟩ := hv1
    refine zd_bf_eq E (pc := 14) 21 d_M_link_14 (by decide) (fun h1 => ?_) (fun h1 => ?_)
    · exfalso
      rcases hc with ⟨-, j, hj, rfl⟩ | ⟨z, -⟩
      · rcases hc2 with ⟨-, j2, hj2, rfl⟩ | ⟨z, -⟩
        · rcases hb with z | z
          · exact bm_out z (by omega) hj rfl
          · exact bm_out z (by omega) hj2 rfl
        · exact h1 z
      · exact h0 z
    · exact out
set_option maxRecDepth 100000 in
set_option maxHeartbeats 4000000 in
theorem c_M_link2 (l : Launch) (D : va_G) (w : Int32) {a f : Nat} (t : tk_M v r nf na fi go co ne ad dr) (ha : a < na) (hf : f < nf) (hw : w < 0 ∨ nI 2 < w) : zd_Ct l D classes (wd_ty k) gd_T y_M_link b_M_link 6 none (zd_rm 1) [.ref (q 22), .int w, .int (nI a), .int (nI f)] (wd k q v r ex) (zd_is none (wd k q (upd v 10 (nI 2)) r ex)) := by
  refine zd_met gd_all (by decide) rfl (Nat.le_of_ble_eq_true rfl) (fun Z E => ?_)
  show Z (wd k q v r ex) [some (.ref (q 22)), some (.int w), some (.int (nI a)), some (.int (nI f)), none, none] 0 []
  have hna := t.hna.2
  have hnf := t.2.2.1.1
  have out : Z (wd k q v r ex) [some (.ref (q 22)), some (.int w), some (.int (nI a)), some (.int (nI f)), none, none] 30 [.ref (q 22)] := by
    refine zd_iconst E (pc := 30) (v := (nI 2)) d_M_link_30 (by decide) ?_
    refine zd_goto E (pc := 31) 35 d_M_link_31 (by decide) ?_
    refine zd_put E (pc := 35) d_M_link_35 kp_M_44 22 rfl (Nat.le_of_ble_eq_true rfl) (ws1 := wd k q (upd v 10 (nI 2)) r ex) rfl ?_
    refine zd_aload_n E (pc := 38) d_M_link_38 rfl ?_
    refine zd_get E (pc := 39) d_M_link_39 kf_M_44 22 rfl rfl ?_
    refine zd_if_le E (pc := 42) 46 d_M_link_42 (by decide) (fun hc => ?_) (fun hc => ?_)
    · exact absurd hc (show ¬ nI 2 ≤ 0 by decide)
    · exact zd_vret E (pc := 45) d_M_link_45 ⟨rfl, rfl⟩
  refine zd_aload_n E (pc := 0) d_M_link_0 rfl ?_
  refine zd_aload_n E (pc := 1) d_M_link_1 rfl ?_
  refine zd_iload_n E (pc := 2) d_M_link_2 rfl ?_
  refine zd_callV E (pc := 3) d_M_link_3 kc_M_69 rfl ki_M_noAction ke_M_noAction 22 rfl rfl (c_M_noAction l D _ t.hna.1 (by omega)) (by decide) rfl (Nat.le_of_ble_eq_true rfl) (fun v1 ws1 hv1 => ?_)
  obtain ⟨b, hc, rfl, rfl⟩ := hv1
  refine zd_bf_ne E (pc := 6) 17 d_M_link_6 (by decide) (fun h0 => ?_) (fun h0 => ?_)
  · rcases hc with ⟨z, -⟩ | ⟨-, z⟩
    · rw [z] at h0; cases h0
    · exact absurd rfl (bm_out z (by omega) ha)
  · refine zd_aload_n E (pc := 9) d_M_link_9 rfl ?_
    refine zd_iload_n E (pc := 10) d_M_link_10 rfl ?_
    refine zd_callV E (pc := 11) d_M_link_11 kc_M_73 rfl ki_M_noFact ke_M_noFact 22 rfl rfl (c_M_noFact l D _ t.1.1 (by omega)) (by decide) rfl (Nat.le_of_ble_eq_true rfl) (fun v1 ws1 hv1 => ?_)
    obtain ⟨b2, hc2, rfl, rfl⟩ := hv1
    refine zd_bf_eq E (pc := 14) 21 d_M_link_14 (by decide) (fun h1 => ?_) (fun h1 => ?_)
    · refine zd_iload_n E (pc := 21) d_M_link_21 rfl ?_
      refine zd_if_lt E (pc := 22) 30 d_M_link_22 (by decide) (fun hq => ?_) (fun hq => ?_)
      · exact out
      · refine zd_iload_n E (pc := 25) d_M_link_25 rfl ?_
        refine zd_iconst E (pc := 26) (v := (nI 2)) d_M_link_26 (by decide) ?_
        refine zd_ic_le E (pc := 27) 34 d_M_link_27 (by decide) (fun hq2 => ?_) (fun hq2 => ?_)
        · rcases hw with z | z
          · exact absurd z hq
          · rw [Int32.lt_iff_toInt_lt] at z
            rw [Int32.le_iff_toInt_le] at hq2
            omega
        · exact out
    · rcases hc2 with ⟨z, -⟩ | ⟨-, z⟩
      · rw [z] at h1; cases h1
      · exact absurd rfl (bm_out z (by omega) hf)
set_option maxRecDepth 100000 in
set_option maxHeartbeats 4000000 in
theorem c_M_link_0 (l : Launch) (D : va_G) {a f : Nat} {m : Nat → Nat} (t : tk_M v r nf na fi go co ne ad dr) (ha : a < na) (hf : f < nf) (hm : ∀ i, i < 12 → r (24 + 0) i = nI (m i) ∧ m i < 2 ^ 31) : zd_Ct l D classes (wd_ty k) gd_T y_M_link b_M_link 6 none (zd_rm 1) [.ref (q 22), .int (nI 0), .int (nI a), .int (nI f)] (wd k q v r ex)
    (fun v1 w1 => ((((m a).testBit f = true) ∧ w1 = wd k q (upd (upd v 10 (nI 0)) 10 (nI 3)) r ex) ∨ ((m a).testBit f = false ∧ w1 = wd k q (upd (upd (upd v 10 (nI 0)) 17 (nI 0)) 15 (v 12)) (va_up r (24 + 0) (upd (r (24 + 0)) a (nI (m a ||| 2 ^ f)))) ex)) ∧ v1 = none) := by
  refine zd_met gd_all (by decide) rfl (Nat.le_of_ble_eq_true rfl) (fun Z E => ?_)
  show Z (wd k q v r ex) [some (.ref (q 22)), some (.int (nI 0)), some (.int (nI a)), some (.int (nI f)), none, none] 0 []
  have hna := t.hna.2
  have hnf := t.2.2.1.1
  obtain ⟨m1, m2⟩ := hm a (by omega)
  have fin : ∀ L4 L5, (m a).testBit f = false → Z (wd k q (upd v 10 (nI 0)) (va_up r (24 + 0) (upd (r (24 + 0)) a (nI (m a ||| 2 ^ f)))) ex) [some (.ref (q 22)), some (.int (nI 0)), some (.int (nI a)), some (.int (nI f)), L4, L5] 148 [] := by
    intro L4 L5 hb
    refine zd_aload_n E (pc := 148) d_M_link_148 rfl ?_
    refine zd_callV E (pc := 149) d_M_link_149 kc_M_66 rfl ki_M_changed ke_M_changed 22 rfl rfl (c_M_changed l D) (by decide) rfl (Nat.le_of_ble_eq_true rfl) (fun v1 ws1 hv1 => ?_)
    obtain ⟨rfl, rfl⟩ := hv1
    exact zd_vret E (pc := 152) d_M_link_152 ⟨Or.inr ⟨hb, rfl⟩, rfl⟩
  have mid : Z (wd k q (upd v 10 (nI 0)) r ex) [some (.ref (q 22)), some (.int (nI 0)), some (.int (nI a)), some (.int (nI f)), some (.int (nI (2 ^ f))), some (.int (nI (m a)))] 86 [] := by
    have hand : m a &&& 2 ^ f ≤ m a := Nat.and_le_left
    refine zd_iload E (pc := 86) d_M_link_86 rfl ?_
    refine zd_iload E (pc := 88) d_M_link_88 rfl ?_
    refine zd_iand E (pc := 90) d_M_link_90 ?_
    rw [bm_and]
    refine zd_if_eq E (pc := 91) 100 d_M_link_91 (by decide) (fun hz => ?_) (fun hz => ?_)
    · have hb : (m a).testBit f = false := by
        cases hbt : (m a).testBit f with
        | false => rfl
        | true =>
          exfalso
          have h1 : m a &&& 2 ^ f = 0 := (nI_eq (by omega) (by decide)).mp (hz.trans nI_0.symm)
          have h2 := congrArg (fun z => z.testBit f) h1
          simp [Nat.testBit_and, hbt, Nat.testBit_two_pow] at h2
      refine zd_iload_n E (pc := 100) d_M_link_100 rfl ?_
      refine zd_if_ne E (pc := 101) 118 d_M_link_101 (by decide) (fun hk => ?_) (fun hk => ?_)
      · exact absurd rfl hk
      · refine zd_aload_n E (pc := 104) d_M_link_104 rfl ?_
        refine zd_get E (pc := 105) d_M_link_105 kf_M_13 22 rfl rfl ?_
        refine zd_iload_n E (pc := 108) d_M_link_108 rfl ?_
        refine zd_iload E (pc := 109) d_M_link_109 rfl ?_
        refine zd_iload E (pc := 111) d_M_link_111 rfl ?_
        refine zd_ior E (pc := 113) d_M_link_113 ?_
        rw [bm_or]
        refine zd_iast E (pc := 114) d_M_link_114 24 rfl (t0 := 0) rfl (a) (rfl) ((by omega)) (by decide) (ws1 := wd k q (upd v 10 (nI 0)) (va_up r (24 + 0) (upd (r (24 + 0)) a (nI (m a ||| 2 ^ f)))) ex) rfl ?_
        refine zd_goto E (pc := 115) 148 d_M_link_115 (by decide) ?_
        exact fin _ _ hb
    · have hb : (m a).testBit f = true := by
        cases hbt : (m a).testBit f with
        | true => rfl
        | false =>
          exfalso
          apply hz
          have : m a &&& 2 ^ f = 0 := by
            refine Nat.eq_of_testBit_eq fun i => ?_
            rw [Nat.testBit_and, Nat.testBit_two_pow, Nat.zero_testBit]
            by_cases e : f = i
            · subst e; rw [hbt]; rfl
            · simp [e]
          rw [this]; rfl
      refine zd_aload_n E (pc := 94) d_M_link_94 rfl ?_
      refine zd_iconst E (pc := 95) (v := (nI 3)) d_M_link_95 (by decide) ?_
      refine zd_put E (pc := 96) d_M_link_96 kp_M_44 22 rfl (Nat.le_of_ble_eq_true rfl) (ws1 := wd k q (upd (upd v 10 (nI 0)) 10 (nI 3)) r ex) rfl ?_
      exact zd_vret E (pc := 99) d_M_link_99 ⟨Or.inl ⟨hb, rfl⟩, rfl⟩
  refine zd_aload_n E (pc := 0) d_M_link_0 rfl ?_
  refine zd_aload_n E (pc := 1) d_M_link_1 rfl ?_
  refine zd_iload_n E (pc := 2) d_M_link_2 rfl ?_
  refine zd_callV E (pc := 3) d_M_link_3 kc_M_69 rfl ki_M_noAction ke_M_noAction 22 rfl rfl (c_M_noAction l D _ t.hna.1 (by omega)) (by decide) rfl (Nat.le_of_ble_eq_true rfl) (fun v1 ws1 hv1 => ?_)
  obtain ⟨b, hc, rfl, rfl⟩ := hv1
  refine zd_bf_ne E (pc := 6) 17 d_M_link_6 (by decide) (fun h0 => ?_) (fun h0 => ?_)
  · rcases hc with ⟨z, -⟩ | ⟨-, z⟩
    · rw [z] at h0; cases h0
    · exact absurd rfl (bm_out z (by omega) ha)
  · refine zd_aload_n E (pc := 9) d_M_link_9 rfl ?_
    refine zd_iload_n E (pc := 10) d_M_link_10 rfl ?_
    refine zd_callV E (pc := 11) d_M_link_11 kc_M_73 rfl ki_M_noFact ke_M_noFact 22 rfl rfl (c_M_noFact l D _ t.1.1 (by omega)) (by decide) rfl (Nat.le_of_ble_eq_true rfl) (fun v1 ws1 hv1 => ?_)
    obtain ⟨b2, hc2, rfl, rfl⟩ := hv1
    refine zd_bf_eq E (pc := 14) 21 d_M_link_14 (by decide) (fun h1 => ?_) (fun h1 => ?_)
    · refine zd_iload_n E (pc := 21) d_M_link_21 rfl ?_
      refine zd_if_lt E (pc := 22) 30 d_M_link_22 (by decide) (fun hq => ?_) (fun hq => ?_)
      · exact absurd hq (by decide)
      · refine zd_iload_n E (pc := 25) d_M_link_25 rfl ?_
        refine zd_iconst E (pc := 26) (v := (nI 2)) d_M_link_26 (by decide) ?_
        refine zd_ic_le E (pc := 27) 34 d_M_link_27 (by decide) (fun hq2 => ?_) (fun hq2 => ?_)
        · refine zd_iconst E (pc := 34) (v := (nI 0)) d_M_link_34 (by decide) ?_
          refine zd_put E (pc := 35) d_M_link_35 kp_M_44 22 rfl (Nat.le_of_ble_eq_true rfl) (ws1 := wd k q (upd v 10 (nI 0)) r ex) rfl ?_
          refine zd_aload_n E (pc := 38) d_M_link_38 rfl ?_
          refine zd_get E (pc := 39) d_M_link_39 kf_M_44 22 rfl rfl ?_
          refine zd_if_le E (pc := 42) 46 d_M_link_42 (by decide) (fun hc3 => ?_) (fun hc3 => ?_)
          · refine zd_iconst E (pc := 46) (v := (nI 1)) d_M_link_46 (by decide) ?_
            refine zd_iload_n E (pc := 47) d_M_link_47 rfl ?_
            refine zd_ishl E (pc := 48) d_M_link_48 ?_
            rw [bm_one (by omega)]
            refine zd_istore E (pc := 49) d_M_link_49 (by decide) ?_
            refine zd_iload_n E (pc := 51) d_M_link_51 rfl ?_
            refine zd_if_ne E (pc := 52) 64 d_M_link_52 (by decide) (fun hk => ?_) (fun hk => ?_)
            · exact absurd rfl hk
            · refine zd_aload_n E (pc := 55) d_M_link_55 rfl ?_
              refine zd_get E (pc := 56) d_M_link_56 kf_M_13 22 rfl rfl ?_
              refine zd_iload_n E (pc := 59) d_M_link_59 rfl ?_
              refine zd_iald E (pc := 60) d_M_link_60 24 rfl (t0 := 0) rfl (a) (rfl) ((by omega)) (by decide) ?_
              show Z (wd k q (upd v 10 (nI 0)) r ex) _ 61 [.int (r (24 + 0) a)]
              rw [m1]
              refine zd_goto E (pc := 61) 84 d_M_link_61 (by decide) ?_
              refine zd_istore E (pc := 84) d_M_link_84 (by decide) ?_
              exact mid
          · exact absurd (show nI 0 ≤ 0 by decide) hc3
        · exact absurd (by decide) hq2
    · rcases hc2 with ⟨z, -⟩ | ⟨-, z⟩
      · rw [z] at h1; cases h1
      · exact absurd rfl (bm_out z (by omega) hf)
set_option maxRecDepth 100000 in
set_option maxHeartbeats 4000000 in
theorem c_M_link_1 (l : Launch) (D : va_G) {a f : Nat} {m : Nat → Nat} (t : tk_M v r nf na fi go co ne ad dr) (ha : a < na) (hf : f < nf) (hm : ∀ i, i < 12 → r (24 + 1) i = nI (m i) ∧ m i < 2 ^ 31) : zd_Ct l D classes (wd_ty k) gd_T y_M_link b_M_link 6 none (zd_rm 1) [.ref (q 22), .int (nI 1), .int (nI a), .int (nI f)] (wd k q v r ex)
    (fun v1 w1 => ((((m a).testBit f = true) ∧ w1 = wd k q (upd (upd v 10 (nI 0)) 10 (nI 3)) r ex) ∨ ((m a).testBit f = false ∧ w1 = wd k q (upd (upd (upd v 10 (nI 0)) 17 (nI 0)) 15 (v 12)) (va_up r (24 + 1) (upd (r (24 + 1)) a (nI (m a ||| 2 ^ f)))) ex)) ∧ v1 = none) := by
  refine zd_met gd_all (by decide) rfl (Nat.le_of_ble_eq_true rfl) (fun Z E => ?_)
  show Z (wd k q v r ex) [some (.ref (q 22)), some (.int (nI 1)), some (.int (nI a)), some (.int (nI f)), none, none] 0 []
  have hna := t.hna.2
  have hnf := t.2.2.1.1
  obtain ⟨m1, m2⟩ := hm a (by omega)
  have fin : ∀ L4 L5, (m a).testBit f = false → Z (wd k q (upd v 10 (nI 0)) (va_up r (24 + 1) (upd (r (24 + 1)) a (nI (m a ||| 2 ^ f)))) ex) [some (.ref (q 22)), some (.int (nI 1)), some (.int (nI a)), some (.int (nI f)), L4, L5] 148 [] := by
    intro L4 L5 hb
    refine zd_aload_n E (pc := 148) d_M_link_148 rfl ?_
    refine zd_callV E (pc := 149) d_M_link_149 kc_M_66 rfl ki_M_changed ke_M_changed 22 rfl rfl (c_M_changed l D) (by decide) rfl (Nat.le_of_ble_eq_true rfl) (fun v1 ws1 hv1 => ?_)
    obtain ⟨rfl, rfl⟩ := hv1
    exact zd_vret E (pc := 152) d_M_link_152 ⟨Or.inr ⟨hb, rfl⟩, rfl⟩
  have mid : Z (wd k q (upd v 10 (nI 0)) r ex) [some (.ref (q 22)), some (.int (nI 1)), some (.int (nI a)), some (.int (nI f)), some (.int (nI (2 ^ f))), some (.int (nI (m a)))] 86 [] := by
    have hand : m a &&& 2 ^ f ≤ m a := Nat.and_le_left
    refine zd_iload E (pc := 86) d_M_link_86 rfl ?_
    refine zd_iload E (pc := 88) d_M_link_88 rfl ?_
    refine zd_iand E (pc := 90) d_M_link_90 ?_
    rw [bm_and]
    refine zd_if_eq E (pc := 91) 100 d_M_link_91 (by decide) (fun hz => ?_) (fun hz => ?_)
    · have hb : (m a).testBit f = false := by
        cases hbt : (m a).testBit f with
        | false => rfl
        | true =>
          exfalso
          have h1 : m a &&& 2 ^ f = 0 := (nI_eq (by omega) (by decide)).mp (hz.trans nI_0.symm)
          have h2 := congrArg (fun z => z.testBit f) h1
          simp [Nat.testBit_and, hbt, Nat.testBit_two_pow] at h2
      refine zd_iload_n E (pc := 100) d_M_link_100 rfl ?_
      refine zd_if_ne E (pc := 101) 118 d_M_link_101 (by decide) (fun hk => ?_) (fun hk => ?_)
      · refine zd_iload_n E (pc := 118) d_M_link_118 rfl ?_
        refine zd_iconst E (pc := 119) (v := (nI 1)) d_M_link_119 (by decide) ?_
        refine zd_ic_ne E (pc := 120) 137 d_M_link_120 (by decide) (fun hk2 => ?_) (fun hk2 => ?_)
        · exact absurd rfl hk2
        · refine zd_aload_n E (pc := 123) d_M_link_123 rfl ?_
          refine zd_get E (pc := 124) d_M_link_124 kf_M_16 22 rfl rfl ?_
          refine zd_iload_n E (pc := 127) d_M_link_127 rfl ?_
          refine zd_iload E (pc := 128) d_M_link_128 rfl ?_
          refine zd_iload E (pc := 130) d_M_link_130 rfl ?_
          refine zd_ior E (pc := 132) d_M_link_132 ?_
          rw [bm_or]
          refine zd_iast E (pc := 133) d_M_link_133 25 rfl (t0 := 0) rfl (a) (rfl) ((by omega)) (by decide) (ws1 := wd k q (upd v 10 (nI 0)) (va_up r (24 + 1) (upd (r (24 + 1)) a (nI (m a ||| 2 ^ f)))) ex) rfl ?_
          refine zd_goto E (pc := 134) 148 d_M_link_134 (by decide) ?_
          exact fin _ _ hb
      · exact absurd (Classical.not_not.mp hk) (by decide)
    · have hb : (m a).testBit f = true := by
        cases hbt : (m a).testBit f with
        | true => rfl
        | false =>
          exfalso
          apply hz
          have : m a &&& 2 ^ f = 0 := by
            refine Nat.eq_of_testBit_eq fun i => ?_
            rw [Nat.testBit_and, Nat.testBit_two_pow, Nat.zero_testBit]
            by_cases e : f = i
            · subst e; rw [hbt]; rfl
            · simp [e]
          rw [this]; rfl
      refine zd_aload_n E (pc := 94) d_M_link_94 rfl ?_
      refine zd_iconst E (pc := 95) (v := (nI 3)) d_M_link_95 (by decide) ?_
      refine zd_put E (pc := 96) d_M_link_96 kp_M_44 22 rfl (Nat.le_of_ble_eq_true rfl) (ws1 := wd k q (upd (upd v 10 (nI 0)) 10 (nI 3)) r ex) rfl ?_
      exact zd_vret E (pc := 99) d_M_link_99 ⟨Or.inl ⟨hb, rfl⟩, rfl⟩
  refine zd_aload_n E (pc := 0) d_M_link_0 rfl ?_
  refine zd_aload_n E (pc := 1) d_M_link_1 rfl ?_
  refine zd_iload_n E (pc := 2) d_M_link_2 rfl ?_
  refine zd_callV E (pc := 3) d_M_link_3 kc_M_69 rfl ki_M_noAction ke_M_noAction 22 rfl rfl (c_M_noAction l D _ t.hna.1 (by omega)) (by decide) rfl (Nat.le_of_ble_eq_true rfl) (fun v1 ws1 hv1 => ?_)
  obtain ⟨b, hc, rfl, rfl⟩ := hv1
  refine zd_bf_ne E (pc := 6) 17 d_M_link_6 (by decide) (fun h0 => ?_) (fun h0 => ?_)
  · rcases hc with ⟨z, -⟩ | ⟨-, z⟩
    · rw [z] at h0; cases h0
    · exact absurd rfl (bm_out z (by omega) ha)
  · refine zd_aload_n E (pc := 9) d_M_link_9 rfl ?_
    refine zd_iload_n E (pc := 10) d_M_link_10 rfl ?_
    refine zd_callV E (pc := 11) d_M_link_11 kc_M_73 rfl ki_M_noFact ke_M_noFact 22 rfl rfl (c_M_noFact l D _ t.1.1 (by omega)) (by decide) rfl (Nat.le_of_ble_eq_true rfl) (fun v1 ws1 hv1 => ?_)
    obtain ⟨b2, hc2, rfl, rfl⟩ := hv1
    refine zd_bf_eq E (pc := 14) 21 d_M_link_14 (by decide) (fun h1 => ?_) (fun h1 => ?_)
    · refine zd_iload_n E (pc := 21) d_M_link_21 rfl ?_
      refine zd_if_lt E (pc := 22) 30 d_M_link_22 (by decide) (fun hq => ?_) (fun hq => ?_)
      · exact absurd hq (by decide)
      · refine zd_iload_n E (pc := 25) d_M_link_25 rfl ?_
        refine zd_iconst E (pc := 26) (v := (nI 2)) d_M_link_26 (by decide) ?_
        refine zd_ic_le E (pc := 27) 34 d_M_link_27 (by decide) (fun hq2 => ?_) (fun hq2 => ?_)
        · refine zd_iconst E (pc := 34) (v := (nI 0)) d_M_link_34 (by decide) ?_
          refine zd_put E (pc := 35) d_M_link_35 kp_M_44 22 rfl (Nat.le_of_ble_eq_true rfl) (ws1 := wd k q (upd v 10 (nI 0)) r ex) rfl ?_
          refine zd_aload_n E (pc := 38) d_M_link_38 rfl ?_
          refine zd_get E (pc := 39) d_M_link_39 kf_M_44 22 rfl rfl ?_
          refine zd_if_le E (pc := 42) 46 d_M_link_42 (by decide) (fun hc3 => ?_) (fun hc3 => ?_)
          · refine zd_iconst E (pc := 46) (v := (nI 1)) d_M_link_46 (by decide) ?_
            refine zd_iload_n E (pc := 47) d_M_link_47 rfl ?_
            refine zd_ishl E (pc := 48) d_M_link_48 ?_
            rw [bm_one (by omega)]
            refine zd_istore E (pc := 49) d_M_link_49 (by decide) ?_
            refine zd_iload_n E (pc := 51) d_M_link_51 rfl ?_
            refine zd_if_ne E (pc := 52) 64 d_M_link_52 (by decide) (fun hk => ?_) (fun hk => ?_)
            · refine zd_iload_n E (pc := 64) d_M_link_64 rfl ?_
              refine zd_iconst E (pc := 65) (v := (nI 1)) d_M_link_65 (by decide) ?_
              refine zd_ic_ne E (pc := 66) 78 d_M_link_66 (by decide) (fun hk2 => ?_) (fun hk2 => ?_)
              · exact absurd rfl hk2
              · refine zd_aload_n E (pc := 69) d_M_link_69 rfl ?_
                refine zd_get E (pc := 70) d_M_link_70 kf_M_16 22 rfl rfl ?_
                refine zd_iload_n E (pc := 73) d_M_link_73 rfl ?_
                refine zd_iald E (pc := 74) d_M_link_74 25 rfl (t0 := 0) rfl (a) (rfl) ((by omega)) (by decide) ?_
                show Z (wd k q (upd v 10 (nI 0)) r ex) _ 75 [.int (r (24 + 1) a)]
                rw [m1]
                refine zd_goto E (pc := 75) 84 d_M_link_75 (by decide) ?_
                refine zd_istore E (pc := 84) d_M_link_84 (by decide) ?_
                exact mid
            · exact absurd (Classical.not_not.mp hk) (by decide)
          · exact absurd (show nI 0 ≤ 0 by decide) hc3
        · exact absurd (by decide) hq2
    · rcases hc2 with ⟨z, -⟩ | ⟨-, z⟩
      · rw [z] at h1; cases h1
      · exact absurd rfl (bm_out z (by omega) hf)
set_option maxRecDepth 100000 in
set_option maxHeartbeats 4000000 in
theorem c_M_link_2 (l : Launch) (D : va_G) {a f : Nat} {m : Nat → Nat} (t : tk_M v r nf na fi go co ne ad dr) (ha : a < na) (hf : f < nf) (hm : ∀ i, i < 12 → r (24 + 2) i = nI (m i) ∧ m i < 2 ^ 31) : zd_Ct l D classes (wd_ty k) gd_T y_M_link b_M_link 6 none (zd_rm 1) [.ref (q 22), .int (nI 2), .int (nI a), .int (nI f)] (wd k q v r ex)
    (fun v1 w1 => ((((m a).testBit f = true) ∧ w1 = wd k q (upd (upd v 10 (nI 0)) 10 (nI 3)) r ex) ∨ ((m a).testBit f = false ∧ w1 = wd k q (upd (upd (upd v 10 (nI 0)) 17 (nI 0)) 15 (v 12)) (va_up r (24 + 2) (upd (r (24 + 2)) a (nI (m a ||| 2 ^ f)))) ex)) ∧ v1 = none) := by
  refine zd_met gd_all (by decide) rfl (Nat.le_of_ble_eq_true rfl) (fun Z E => ?_)
  show Z (wd k q v r ex) [some (.ref (q 22)), some (.int (nI 2)), some (.int (nI a)), some (.int (nI f)), none, none] 0 []
  have hna := t.hna.2
  have hnf := t.2.2.1.1
  obtain ⟨m1, m2⟩ := hm a (by omega)
  have fin : ∀ L4 L5, (m a).testBit f = false → Z (wd k q (upd v 10 (nI 0)) (va_up r (24 + 2) (upd (r (24 + 2)) a (nI (m a ||| 2 ^ f)))) ex) [some (.ref (q 22)), some (.int (nI 2)), some (.int (nI a)), some (.int (nI f)), L4, L5] 148 [] := by
    intro L4 L5 hb
    refine zd_aload_n E (pc := 148) d_M_link_148 rfl ?_
    refine zd_callV E (pc := 149) d_M_link_149 kc_M_66 rfl ki_M_changed ke_M_changed 22 rfl rfl (c_M_changed l D) (by decide) rfl (Nat.le_of_ble_eq_true rfl) (fun v1 ws1 hv1 => ?_)
    obtain ⟨rfl, rfl⟩ := hv1
    exact zd_vret E (pc := 152) d_M_link_152 ⟨Or.inr ⟨hb, rfl⟩, rfl⟩
  have mid : Z (wd k q (upd v 10 (nI 0)) r ex) [some (.ref (q 22)), some (.int (nI 2)), some (.int (nI a)), some (.int (nI f)), some (.int (nI (2 ^ f))), some (.int (nI (m a)))] 86 [] := by
    have hand : m a &&& 2 ^ f ≤ m a := Nat.and_le_left
    refine zd_iload E (pc := 86) d_M_link_86 rfl ?_
    refine zd_iload E (pc := 88) d_M_link_88 rfl ?_
    refine zd_iand E (pc := 90) d_M_link_90 ?_
    rw [bm_and]
    refine zd_if_eq E (pc := 91) 100 d_M_link_91 (by decide) (fun hz => ?_) (fun hz => ?_)
    · have hb : (m a).testBit f = false := by
        cases hbt : (m a).testBit f with
        | false => rfl
        | true =>
          exfalso
          have h1 : m a &&& 2 ^ f = 0 := (nI_eq (by omega) (by decide)).mp (hz.trans nI_0.symm)
          have h2 := congrArg (fun z => z.testBit f) h1
          simp [Nat.testBit_and, hbt, Nat.testBit_two_pow] at h2
      refine zd_iload_n E (pc := 100) d_M_link_100 rfl ?_
      refine zd_if_ne E (pc := 101) 118 d_M_link_101 (by decide) (fun hk => ?_) (fun hk => ?_)
      · refine zd_iload_n E (pc := 118) d_M_link_118 rfl ?_
        refine zd_iconst E (pc := 119) (v := (nI 1)) d_M_link_119 (by decide) ?_
        refine zd_ic_ne E (pc := 120) 137 d_M_link_120 (by decide) (fun hk2 => ?_) (fun hk2 => ?_)
        · refine zd_aload_n E (pc := 137) d_M_link_137 rfl ?_
          refine zd_get E (pc := 138) d_M_link_138 kf_M_19 22 rfl rfl ?_
          refine zd_iload_n E (pc := 141) d_M_link_141 rfl ?_
          refine zd_iload E (pc := 142) d_M_link_142 rfl ?_
          refine zd_iload E (pc := 144) d_M_link_144 rfl ?_
          refine zd_ior E (pc := 146) d_M_link_146 ?_
          rw [bm_or]
          refine zd_iast E (pc := 147) d_M_link_147 26 rfl (t0 := 0) rfl (a) (rfl) ((by omega)) (by decide) (ws1 := wd k q (upd v 10 (nI 0)) (va_up r (24 + 2) (upd (r (24 + 2)) a (nI (m a ||| 2 ^ f)))) ex) rfl ?_
          exact fin _ _ hb
        · exact absurd (Classical.not_not.mp hk2) (by decide)
      · exact absurd (Classical.not_not.mp hk) (by decide)
    · have hb : (m a).testBit f = true := by
        cases hbt : (m a).testBit f with
        | true => rfl
        | false =>
          exfalso
          apply hz
          have : m a &&& 2 ^ f = 0 := by
            refine Nat.eq_of_testBit_eq fun i => ?_
            rw [Nat.testBit_and, Nat.testBit_two_pow, Nat.zero_testBit]
            by_cases e : f = i
            · subst e; rw [hbt]; rfl
            · simp [e]
          rw [this]; rfl
      refine zd_aload_n E (pc := 94) d_M_link_94 rfl ?_
      refine zd_iconst E (pc := 95) (v := (nI 3)) d_M_link_95 (by decide) ?_
      refine zd_put E (pc := 96) d_M_link_96 kp_M_44 22 rfl (Nat.le_of_ble_eq_true rfl) (ws1 := wd k q (upd (upd v 10 (nI 0)) 10 (nI 3)) r ex) rfl ?_
      exact zd_vret E (pc := 99) d_M_link_99 ⟨Or.inl ⟨hb, rfl⟩, rfl⟩
  refine zd_aload_n E (pc := 0) d_M_link_0 rfl ?_
  refine zd_aload_n E (pc := 1) d_M_link_1 rfl ?_
  refine zd_iload_n E (pc := 2) d_M_link_2 rfl ?_
  refine zd_callV E (pc := 3) d_M_link_3 kc_M_69 rfl ki_M_noAction ke_M_noAction 22 rfl rfl (c_M_noAction l D _ t.hna.1 (by omega)) (by decide) rfl (Nat.le_of_ble_eq_true rfl) (fun v1 ws1 hv1 => ?_)
  obtain ⟨b, hc, rfl, rfl⟩ := hv1
  refine zd_bf_ne E (pc := 6) 17 d_M_link_6 (by decide) (fun h0 => ?_) (fun h0 => ?_)
  · rcases hc with ⟨z, -⟩ | ⟨-, z⟩
    · rw [z] at h0; cases h0
    · exact absurd rfl (bm_out z (by omega) ha)
  · refine zd_aload_n E (pc := 9) d_M_link_9 rfl ?_
    refine zd_iload_n E (pc := 10) d_M_link_10 rfl ?_
    refine zd_callV E (pc := 11) d_M_link_11 kc_M_73 rfl ki_M_noFact ke_M_noFact 22 rfl rfl (c_M_noFact l D _ t.1.1 (by omega)) (by decide) rfl (Nat.le_of_ble_eq_true rfl) (fun v1 ws1 hv1 => ?_)
    obtain ⟨b2, hc2, rfl, rfl⟩ := hv1
    refine zd_bf_eq E (pc := 14) 21 d_M_link_14 (by decide) (fun h1 => ?_) (fun h1 => ?_)
    · refine zd_iload_n E (pc := 21) d_M_link_21 rfl ?_
      refine zd_if_lt E (pc := 22) 30 d_M_link_22 (by decide) (fun hq => ?_) (fun hq => ?_)
      · exact absurd hq (by decide)
      · refine zd_iload_n E (pc := 25) d_M_link_25 rfl ?_
        refine zd_iconst E (pc := 26) (v := (nI 2)) d_M_link_26 (by decide) ?_
        refine zd_ic_le E (pc := 27) 34 d_M_link_27 (by decide) (fun hq2 => ?_) (fun hq2 => ?_)
        · refine zd_iconst E (pc := 34) (v := (nI 0)) d_M_link_34 (by decide) ?_
          refine zd_put E (pc := 35) d_M_link_35 kp_M_44 22 rfl (Nat.le_of_ble_eq_true rfl) (ws1 := wd k q (upd v 10 (nI 0)) r ex) rfl ?_
          refine zd_aload_n E (pc := 38) d_M_link_38 rfl ?_
          refine zd_get E (pc := 39) d_M_link_39 kf_M_44 22 rfl rfl ?_
          refine zd_if_le E (pc := 42) 46 d_M_link_42 (by decide) (fun hc3 => ?_) (fun hc3 => ?_)
          · refine zd_iconst E (pc := 46) (v := (nI 1)) d_M_link_46 (by decide) ?_
            refine zd_iload_n E (pc := 47) d_M_link_47 rfl ?_
            refine zd_ishl E (pc := 48) d_M_link_48 ?_
            rw [bm_one (by omega)]
            refine zd_istore E (pc := 49) d_M_link_49 (by decide) ?_
            refine zd_iload_n E (pc := 51) d_M_link_51 rfl ?_
            refine zd_if_ne E (pc := 52) 64 d_M_link_52 (by decide) (fun hk => ?_) (fun hk => ?_)
            · refine zd_iload_n E (pc := 64) d_M_link_64 rfl ?_
              refine zd_iconst E (pc := 65) (v := (nI 1)) d_M_link_65 (by decide) ?_
              refine zd_ic_ne E (pc := 66) 78 d_M_link_66 (by decide) (fun hk2 => ?_) (fun hk2 => ?_)
              · refine zd_aload_n E (pc := 78) d_M_link_78 rfl ?_
                refine zd_get E (pc := 79) d_M_link_79 kf_M_19 22 rfl rfl ?_
                refine zd_iload_n E (pc := 82) d_M_link_82 rfl ?_
                refine zd_iald E (pc := 83) d_M_link_83 26 rfl (t0 := 0) rfl (a) (rfl) ((by omega)) (by decide) ?_
                show Z (wd k q (upd v 10 (nI 0)) r ex) _ 84 [.int (r (24 + 2) a)]
                rw [m1]
                refine zd_istore E (pc := 84) d_M_link_84 (by decide) ?_
                exact mid
              · exact absurd (Classical.not_not.mp hk2) (by decide)
            · exact absurd (Classical.not_not.mp hk) (by decide)
          · exact absurd (show nI 0 ≤ 0 by decide) hc3
        · exact absurd (by decide) hq2
    · rcases hc2 with ⟨z, -⟩ | ⟨-, z⟩
      · rw [z] at h1; cases h1
      · exact absurd rfl (bm_out z (by omega) hf)
end M2
end
section
/-! The reference: holds, applicable, apply, draft, check, cost. -/
section M3
variable {k : Nat → ClassId} {q : Nat → Nat} {v : Nat → Int32} {r : Nat → Nat → Int32} {ex : va_W} {nf na fi go : Nat} {co ne ad dr : Nat → Nat}
set_option maxRecDepth 100000 in
set_option maxHeartbeats 4000000 in
theorem c_M_holds (l : Launch) (D : va_G) {f s : Nat} (t : tk_M v r nf na fi go co ne ad dr) (hs : v 15 = nI s) (hs2 : s < 1024) (hf : f < nf) : zd_Ct l D classes (wd_ty k) gd_T y_M_holds b_M_holds 2 (some .boolean) (zd_rm 1) [.ref (q 22), .int (nI f)] (wd k q v r ex) (zd_is (some (.int (nI (if s.testBit f = true then 1 else 0)))) (wd k q (upd v 10 (nI 0)) r ex)) := by
  refine zd_met gd_all (by decide) rfl (Nat.le_of_ble_eq_true rfl) (fun Z E => ?_)
  show Z (wd k q v r ex) [some (.ref (q 22)), some (.int (nI f))] 0 []
  have hnf := t.2.2.1.1
  refine zd_aload_n E (pc := 0) d_M_holds_0 rfl ?_
  refine zd_aload_n E (pc := 1) d_M_holds_1 rfl ?_
  refine zd_iload_n E (pc := 2) d_M_holds_2 rfl ?_
  refine zd_callV E (pc := 3) d_M_holds_3 kc_M_73 rfl ki_M_noFact ke_M_noFact 22 rfl rfl (c_M_noFact l D _ t.1.1 (by omega)) (by decide) rfl (Nat.le_of_ble_eq_true rfl) (fun v1 ws1 hv1 => ?_)
  obtain ⟨b, hc, rfl, rfl⟩ := hv1
  refine zd_bf_eq E (pc := 6) 13 d_M_holds_6 (by decide) (fun h0 => ?_) (fun h0 => ?_)
  · refine zd_iconst E (pc := 13) (v := (nI 0)) d_M_holds_13 (by decide) ?_
    refine zd_put E (pc := 14) d_M_holds_14 kp_M_44 22 rfl (Nat.le_of_ble_eq_true rfl) (ws1 := wd k q (upd v 10 (nI 0)) r ex) rfl ?_
    refine zd_aload_n E (pc := 17) d_M_holds_17 rfl ?_
    refine zd_get E (pc := 18) d_M_holds_18 kf_M_44 22 rfl rfl ?_
    refine zd_if_ne E (pc := 21) 40 d_M_holds_21 (by decide) (fun h1 => ?_) (fun h1 => ?_)
    · exact absurd (show nI 0 = 0 by decide) h1
    · refine zd_aload_n E (pc := 24) d_M_holds_24 rfl ?_
      refine zd_get E (pc := 25) d_M_holds_25 kf_M_60 22 rfl rfl ?_
      show Z (wd k q (upd v 10 (nI 0)) r ex) _ 28 [.int (v 15)]
      rw [hs]
      refine zd_iload_n E (pc := 28) d_M_holds_28 rfl ?_
      refine zd_ishr E (pc := 29) d_M_holds_29 ?_
      refine zd_iconst E (pc := 30) (v := (nI 1)) d_M_holds_30 (by decide) ?_
      refine zd_iand E (pc := 31) d_M_holds_31 ?_
      rw [bm_has (show s < 2 ^ 31 by omega) (show f < 32 by omega)]
      refine zd_iconst E (pc := 32) (v := (nI 1)) d_M_holds_32 (by decide) ?_
      refine zd_ic_ne E (pc := 33) 40 d_M_holds_33 (by decide) (fun h2 => ?_) (fun h2 => ?_)
      · refine zd_iconst E (pc := 40) (v := (nI 0)) d_M_holds_40 (by decide) ?_
        exact zd_zret E (pc := 41) d_M_holds_41 (by decide) ⟨by
          by_cases z : s.testBit f = true
          · rw [if_pos z] at h2; exact absurd rfl h2
          · rw [if_neg z], rfl⟩
      · refine zd_iconst E (pc := 36) (v := (nI 1)) d_M_holds_36 (by decide) ?_
        refine zd_goto E (pc := 37) 41 d_M_holds_37 (by decide) ?_
        exact zd_zret E (pc := 41) d_M_holds_41 (by decide) ⟨by
          by_cases z : s.testBit f = true
          · rw [if_pos z]
          · rw [if_neg z] at h2; exact absurd (Classical.not_not.mp h2) (by decide), rfl⟩
  · rcases hc with ⟨z, -⟩ | ⟨-, z⟩
    · rw [z] at h0; cases h0
    · exact absurd rfl (bm_out z (by omega) hf)
set_option maxRecDepth 100000 in
set_option maxHeartbeats 4000000 in
theorem c_M_holds1 (l : Launch) (D : va_G) (x : Int32) (t : tk_M v r nf na fi go co ne ad dr) (hx : x < 0 ∨ nI (if "holds" = "holds" then nf else na) ≤ x) : zd_Ct l D classes (wd_ty k) gd_T y_M_holds b_M_holds 2 (some .boolean) (zd_rm 1) [.ref (q 22), .int x] (wd k q v r ex) (zd_is (some (.int (nI 0))) (wd k q (upd v 10 (nI 1)) r ex)) := by
  refine zd_met gd_all (by decide) rfl (Nat.le_of_ble_eq_true rfl) (fun Z E => ?_)
  show Z (wd k q v r ex) [some (.ref (q 22)), some (.int x)] 0 []
  have hnf := t.2.2.1.1
  have hna := t.hna.2
  refine zd_aload_n E (pc := 0) d_M_holds_0 rfl ?_
  refine zd_aload_n E (pc := 1) d_M_holds_1 rfl ?_
  refine zd_iload_n E (pc := 2) d_M_holds_2 rfl ?_
  refine zd_callV E (pc := 3) d_M_holds_3 kc_M_73 rfl ki_M_noFact ke_M_noFact 22 rfl rfl (c_M_noFact l D _ t.1.1 (by omega)) (by decide) rfl (Nat.le_of_ble_eq_true rfl) (fun v1 ws1 hv1 => ?_)
  obtain ⟨b, hc, rfl, rfl⟩ := hv1
  refine zd_bf_eq E (pc := 6) 13 d_M_holds_6 (by decide) (fun h0 => ?_) (fun h0 => ?_)
  · rcases hc with ⟨-, j, hj, rfl⟩ | ⟨z, -⟩
    · exact absurd rfl (bm_out (n := nf) hx (by omega) hj)
    · exact absurd z h0
  · refine zd_iconst E (pc := 9) (v := (nI 1)) d_M_holds_9 (by decide) ?_
    refine zd_goto E (pc := 10) 14 d_M_holds_10 (by decide) ?_
    refine zd_put E (pc := 14) d_M_holds_14 kp_M_44 22 rfl (Nat.le_of_ble_eq_true rfl) (ws1 := wd k q (upd v 10 (nI 1)) r ex) rfl ?_
    refine zd_aload_n E (pc := 17) d_M_holds_17 rfl ?_
    refine zd_get E (pc := 18) d_M_holds_18 kf_M_44 22 rfl rfl ?_
    refine zd_if_ne E (pc := 21) 40 d_M_holds_21 (by decide) (fun h1 => ?_) (fun h1 => ?_)
    · refine zd_iconst E (pc := 40) (v := (nI 0)) d_M_holds_40 (by decide) ?_
      exact zd_zret E (pc := 41) d_M_holds_41 (by decide) ⟨rfl, rfl⟩
    · exact absurd (Classical.not_not.mp h1) (show ¬ nI 1 = 0 by decide)
set_option maxRecDepth 100000 in
set_option maxHeartbeats 4000000 in
theorem c_M_applicable1 (l : Launch) (D : va_G) (x : Int32) (t : tk_M v r nf na fi go co ne ad dr) (hx : x < 0 ∨ nI (if "applicable" = "holds" then nf else na) ≤ x) : zd_Ct l D classes (wd_ty k) gd_T y_M_applicable b_M_applicable 2 (some .boolean) (zd_rm 1) [.ref (q 22), .int x] (wd k q v r ex) (zd_is (some (.int (nI 0))) (wd k q (upd v 10 (nI 1)) r ex)) := by
  refine zd_met gd_all (by decide) rfl (Nat.le_of_ble_eq_true rfl) (fun Z E => ?_)
  show Z (wd k q v r ex) [some (.ref (q 22)), some (.int x)] 0 []
  have hnf := t.2.2.1.1
  have hna := t.hna.2
  refine zd_aload_n E (pc := 0) d_M_applicable_0 rfl ?_
  refine zd_aload_n E (pc := 1) d_M_applicable_1 rfl ?_
  refine zd_iload_n E (pc := 2) d_M_applicable_2 rfl ?_
  refine zd_callV E (pc := 3) d_M_applicable_3 kc_M_69 rfl ki_M_noAction ke_M_noAction 22 rfl rfl (c_M_noAction l D _ t.hna.1 (by omega)) (by decide) rfl (Nat.le_of_ble_eq_true rfl) (fun v1 ws1 hv1 => ?_)
  obtain ⟨b, hc, rfl, rfl⟩ := hv1
  refine zd_bf_eq E (pc := 6) 13 d_M_applicable_6 (by decide) (fun h0 => ?_) (fun h0 => ?_)
  · rcases hc with ⟨-, j, hj, rfl⟩ | ⟨z, -⟩
    · exact absurd rfl (bm_out (n := na) hx (by omega) hj)
    · exact absurd z h0
  · refine zd_iconst E (pc := 9) (v := (nI 1)) d_M_applicable_9 (by decide) ?_
    refine zd_goto E (pc := 10) 14 d_M_applicable_10 (by decide) ?_
    refine zd_put E (pc := 14) d_M_applicable_14 kp_M_44 22 rfl (Nat.le_of_ble_eq_true rfl) (ws1 := wd k q (upd v 10 (nI 1)) r ex) rfl ?_
    refine zd_aload_n E (pc := 17) d_M_applicable_17 rfl ?_
    refine zd_get E (pc := 18) d_M_applicable_18 kf_M_44 22 rfl rfl ?_
    refine zd_if_ne E (pc := 21) 40 d_M_applicable_21 (by decide) (fun h1 => ?_) (fun h1 => ?_)
    · refine zd_iconst E (pc := 40) (v := (nI 0)) d_M_applicable_40 (by decide) ?_
      exact zd_zret E (pc := 41) d_M_applicable_41 (by decide) ⟨rfl, rfl⟩
    · exact absurd (Classical.not_not.mp h1) (show ¬ nI 1 = 0 by decide)
set_option maxRecDepth 100000 in
set_option maxHeartbeats 4000000 in
theorem c_M_applicable (l : Launch) (D : va_G) {a s : Nat} (t : tk_M v r nf na fi go co ne ad dr) (hs : v 15 = nI s) (ha : a < na) : zd_Ct l D classes (wd_ty k) gd_T y_M_applicable b_M_applicable 2 (some .boolean) (zd_rm 1) [.ref (q 22), .int (nI a)] (wd k q v r ex) (zd_is (some (.int (nI (bm_b (tk_can ne a s))))) (wd k q (upd v 10 (nI 0)) r ex)) := by
  refine zd_met gd_all (by decide) rfl (Nat.le_of_ble_eq_true rfl) (fun Z E => ?_)
  show Z (wd k q v r ex) [some (.ref (q 22)), some (.int (nI a))] 0 []
  have hna := t.hna.2
  refine zd_aload_n E (pc := 0) d_M_applicable_0 rfl ?_
  refine zd_aload_n E (pc := 1) d_M_applicable_1 rfl ?_
  refine zd_iload_n E (pc := 2) d_M_applicable_2 rfl ?_
  refine zd_callV E (pc := 3) d_M_applicable_3 kc_M_69 rfl ki_M_noAction ke_M_noAction 22 rfl rfl (c_M_noAction l D _ t.hna.1 (by omega)) (by decide) rfl (Nat.le_of_ble_eq_true rfl) (fun v1 ws1 hv1 => ?_)
  obtain ⟨b, hc, rfl, rfl⟩ := hv1
  refine zd_bf_eq E (pc := 6) 13 d_M_applicable_6 (by decide) (fun h0 => ?_) (fun h0 => ?_)
  · refine zd_iconst E (pc := 13) (v := (nI 0)) d_M_applicable_13 (by decide) ?_
    refine zd_put E (pc := 14) d_M_applicable_14 kp_M_44 22 rfl (Nat.le_of_ble_eq_true rfl) (ws1 := wd k q (upd v 10 (nI 0)) r ex) rfl ?_
    refine zd_aload_n E (pc := 17) d_M_applicable_17 rfl ?_
    refine zd_get E (pc := 18) d_M_applicable_18 kf_M_44 22 rfl rfl ?_
    refine zd_if_ne E (pc := 21) 40 d_M_applicable_21 (by decide) (fun h1 => ?_) (fun h1 => ?_)
    · exact absurd (show nI 0 = 0 by decide) h1
    · refine zd_aload_n E (pc := 24) d_M_applicable_24 rfl ?_
      refine zd_iload_n E (pc := 25) d_M_applicable_25 rfl ?_
      refine zd_aload_n E (pc := 26) d_M_applicable_26 rfl ?_
      refine zd_get E (pc := 27) d_M_applicable_27 kf_M_60 22 rfl rfl ?_
      show Z (wd k q (upd v 10 (nI 0)) r ex) _ 30 [.int (v 15), .int (nI a), .ref (q 22)]
      rw [hs]
      refine zd_callV E (pc := 30) d_M_applicable_30 kc_M_76 rfl ki_M_can ke_M_can 22 rfl rfl (c_M_can l D (v := upd v 10 (nI 0)) (tk_mfr t rfl rfl rfl rfl rfl rfl rfl rfl) (show a < 12 by omega)) (by decide) rfl (Nat.le_of_ble_eq_true rfl) (fun v1 ws1 hv1 => ?_)
      obtain ⟨rfl, rfl⟩ := hv1
      refine zd_bf_eq E (pc := 33) 40 d_M_applicable_33 (by decide) (fun h2 => ?_) (fun h2 => ?_)
      · refine zd_iconst E (pc := 40) (v := (nI 0)) d_M_applicable_40 (by decide) ?_
        exact zd_zret E (pc := 41) d_M_applicable_41 (by decide) ⟨by rw [ts_f h2]; rfl, rfl⟩
      · refine zd_iconst E (pc := 36) (v := (nI 1)) d_M_applicable_36 (by decide) ?_
        refine zd_goto E (pc := 37) 41 d_M_applicable_37 (by decide) ?_
        exact zd_zret E (pc := 41) d_M_applicable_41 (by decide) ⟨by rw [h2]; rfl, rfl⟩
  · rcases hc with ⟨z, -⟩ | ⟨-, z⟩
    · rw [z] at h0; cases h0
    · exact absurd rfl (bm_out z (by omega) ha)
set_option maxRecDepth 100000 in
set_option maxHeartbeats 4000000 in
theorem c_M_apply1 (l : Launch) (D : va_G) (x : Int32) (t : tk_M v r nf na fi go co ne ad dr) (hx : x < 0 ∨ nI na ≤ x) : zd_Ct l D classes (wd_ty k) gd_T y_M_apply b_M_apply 2 (some .boolean) (zd_rm 1) [.ref (q 22), .int x] (wd k q v r ex) (zd_is (some (.int (nI 0))) (wd k q (upd v 10 (nI 1)) r ex)) := by
  refine zd_met gd_all (by decide) rfl (Nat.le_of_ble_eq_true rfl) (fun Z E => ?_)
  show Z (wd k q v r ex) [some (.ref (q 22)), some (.int x)] 0 []
  have hna := t.hna.2
  refine zd_aload_n E (pc := 0) d_M_apply_0 rfl ?_
  refine zd_aload_n E (pc := 1) d_M_apply_1 rfl ?_
  refine zd_iload_n E (pc := 2) d_M_apply_2 rfl ?_
  refine zd_callV E (pc := 3) d_M_apply_3 kc_M_69 rfl ki_M_noAction ke_M_noAction 22 rfl rfl (c_M_noAction l D _ t.hna.1 (by omega)) (by decide) rfl (Nat.le_of_ble_eq_true rfl) (fun v1 ws1 hv1 => ?_)
  obtain ⟨b, hc, rfl, rfl⟩ := hv1
  refine zd_bf_eq E (pc := 6) 13 d_M_apply_6 (by decide) (fun h0 => ?_) (fun h0 => ?_)
  · rcases hc with ⟨-, j, hj, rfl⟩ | ⟨z, -⟩
    · exact absurd rfl (bm_out hx (by omega) hj)
    · exact absurd z h0
  · refine zd_iconst E (pc := 9) (v := (nI 1)) d_M_apply_9 (by decide) ?_
    refine zd_goto E (pc := 10) 30 d_M_apply_10 (by decide) ?_
    refine zd_put E (pc := 30) d_M_apply_30 kp_M_44 22 rfl (Nat.le_of_ble_eq_true rfl) (ws1 := wd k q (upd v 10 (nI 1)) r ex) rfl ?_
    refine zd_aload_n E (pc := 33) d_M_apply_33 rfl ?_
    refine zd_get E (pc := 34) d_M_apply_34 kf_M_44 22 rfl rfl ?_
    refine zd_if_le E (pc := 37) 42 d_M_apply_37 (by decide) (fun h1 => ?_) (fun h1 => ?_)
    · exact absurd h1 bm_1ne0
    · refine zd_iconst E (pc := 40) (v := (nI 0)) d_M_apply_40 (by decide) ?_
      exact zd_zret E (pc := 41) d_M_apply_41 (by decide) ⟨rfl, rfl⟩
set_option maxRecDepth 100000 in
set_option maxHeartbeats 4000000 in
theorem c_M_apply (l : Launch) (D : va_G) {a s : Nat} (t : tk_M v r nf na fi go co ne ad dr) (hs : v 15 = nI s) (ha : a < na) : zd_Ct l D classes (wd_ty k) gd_T y_M_apply b_M_apply 2 (some .boolean) (zd_rm 1) [.ref (q 22), .int (nI a)] (wd k q v r ex)
    (fun v1 w1 => (tk_can ne a s = false ∧ v1 = some (.int (nI 0)) ∧ w1 = wd k q (upd v 10 (nI 2)) r ex) ∨ (tk_can ne a s = true ∧ v1 = some (.int (nI (bm_b (tk_met go (tk_af ad dr a s))))) ∧ w1 = wd k q (upd (upd v 10 (nI 0)) 15 (nI (tk_af ad dr a s))) r ex)) := by
  refine zd_met gd_all (by decide) rfl (Nat.le_of_ble_eq_true rfl) (fun Z E => ?_)
  show Z (wd k q v r ex) [some (.ref (q 22)), some (.int (nI a))] 0 []
  have hna := t.hna.2
  have ha12 : a < 12 := by omega
  refine zd_aload_n E (pc := 0) d_M_apply_0 rfl ?_
  refine zd_aload_n E (pc := 1) d_M_apply_1 rfl ?_
  refine zd_iload_n E (pc := 2) d_M_apply_2 rfl ?_
  refine zd_callV E (pc := 3) d_M_apply_3 kc_M_69 rfl ki_M_noAction ke_M_noAction 22 rfl rfl (c_M_noAction l D _ t.hna.1 (by omega)) (by decide) rfl (Nat.le_of_ble_eq_true rfl) (fun v1 ws1 hv1 => ?_)
  obtain ⟨b, hc, rfl, rfl⟩ := hv1
  refine zd_bf_eq E (pc := 6) 13 d_M_apply_6 (by decide) (fun h0 => ?_) (fun h0 => ?_)
  · refine zd_aload_n E (pc := 13) d_M_apply_13 rfl ?_
    refine zd_iload_n E (pc := 14) d_M_apply_14 rfl ?_
    refine zd_aload_n E (pc := 15) d_M_apply_15 rfl ?_
    refine zd_get E (pc := 16) d_M_apply_16 kf_M_60 22 rfl rfl ?_
    rw [hs]
    refine zd_callV E (pc := 19) d_M_apply_19 kc_M_76 rfl ki_M_can ke_M_can 22 rfl rfl (c_M_can l D t ha12) (by decide) rfl (Nat.le_of_ble_eq_true rfl) (fun v1 ws1 hv1 => ?_)
    obtain ⟨rfl, rfl⟩ := hv1
    refine zd_bf_ne E (pc := 22) 29 d_M_apply_22 (by decide) (fun h2 => ?_) (fun h2 => ?_)
    · refine zd_iconst E (pc := 29) (v := (nI 0)) d_M_apply_29 (by decide) ?_
      refine zd_put E (pc := 30) d_M_apply_30 kp_M_44 22 rfl (Nat.le_of_ble_eq_true rfl) (ws1 := wd k q (upd v 10 (nI 0)) r ex) rfl ?_
      refine zd_aload_n E (pc := 33) d_M_apply_33 rfl ?_
      refine zd_get E (pc := 34) d_M_apply_34 kf_M_44 22 rfl rfl ?_
      refine zd_if_le E (pc := 37) 42 d_M_apply_37 (by decide) (fun h1 => ?_) (fun h1 => ?_)
      · refine zd_aload_n E (pc := 42) d_M_apply_42 rfl ?_
        refine zd_aload_n E (pc := 43) d_M_apply_43 rfl ?_
        refine zd_iload_n E (pc := 44) d_M_apply_44 rfl ?_
        refine zd_aload_n E (pc := 45) d_M_apply_45 rfl ?_
        refine zd_get E (pc := 46) d_M_apply_46 kf_M_60 22 rfl rfl ?_
        show Z (wd k q (upd v 10 (nI 0)) r ex) _ 49 [.int (v 15), .int (nI a), .ref (q 22), .ref (q 22)]
        rw [hs]
        refine zd_callV E (pc := 49) d_M_apply_49 kc_M_80 rfl ki_M_after ke_M_after 22 rfl rfl (c_M_after l D (v := upd v 10 (nI 0)) (tk_mfr t rfl rfl rfl rfl rfl rfl rfl rfl) ha12) (by decide) rfl (Nat.le_of_ble_eq_true rfl) (fun v1 ws1 hv1 => ?_)
        obtain ⟨rfl, rfl⟩ := hv1
        refine zd_put E (pc := 52) d_M_apply_52 kp_M_60 22 rfl (Nat.le_of_ble_eq_true rfl) (ws1 := wd k q (upd (upd v 10 (nI 0)) 15 (nI (tk_af ad dr a s))) r ex) rfl ?_
        refine zd_aload_n E (pc := 55) d_M_apply_55 rfl ?_
        refine zd_aload_n E (pc := 56) d_M_apply_56 rfl ?_
        refine zd_get E (pc := 57) d_M_apply_57 kf_M_60 22 rfl rfl ?_
        show Z (wd k q (upd (upd v 10 (nI 0)) 15 (nI (tk_af ad dr a s))) r ex) _ 60 [.int (nI (tk_af ad dr a s)), .ref (q 22)]
        refine zd_callV E (pc := 60) d_M_apply_60 kc_M_84 rfl ki_M_isMet ke_M_isMet 22 rfl rfl (c_M_isMet l D (v := upd (upd v 10 (nI 0)) 15 (nI (tk_af ad dr a s))) (tk_mfr t rfl rfl rfl rfl rfl rfl rfl rfl)) (by decide) rfl (Nat.le_of_ble_eq_true rfl) (fun v1 ws1 hv1 => ?_)
        obtain ⟨rfl, rfl⟩ := hv1
        exact zd_zret E (pc := 63) d_M_apply_63 (bm_zn _) (Or.inr ⟨h2, rfl, rfl⟩)
      · exact absurd (show nI 0 ≤ 0 by decide) h1
    · refine zd_iconst E (pc := 25) (v := (nI 2)) d_M_apply_25 (by decide) ?_
      refine zd_goto E (pc := 26) 30 d_M_apply_26 (by decide) ?_
      refine zd_put E (pc := 30) d_M_apply_30 kp_M_44 22 rfl (Nat.le_of_ble_eq_true rfl) (ws1 := wd k q (upd v 10 (nI 2)) r ex) rfl ?_
      refine zd_aload_n E (pc := 33) d_M_apply_33 rfl ?_
      refine zd_get E (pc := 34) d_M_apply_34 kf_M_44 22 rfl rfl ?_
      refine zd_if_le E (pc := 37) 42 d_M_apply_37 (by decide) (fun h1 => ?_) (fun h1 => ?_)
      · exact absurd h1 (show ¬ nI 2 ≤ 0 by decide)
      · refine zd_iconst E (pc := 40) (v := (nI 0)) d_M_apply_40 (by decide) ?_
        exact zd_zret E (pc := 41) d_M_apply_41 (by decide) (Or.inl ⟨ts_f h2, rfl, rfl⟩)
  · rcases hc with ⟨z, -⟩ | ⟨-, z⟩
    · rw [z] at h0; cases h0
    · exact absurd rfl (bm_out z (by omega) ha)
set_option maxRecDepth 100000 in
set_option maxHeartbeats 4000000 in
theorem c_M_draft1 (l : Launch) (D : va_G) (x : Int32) (t : tk_M v r nf na fi go co ne ad dr) (hx : x < 0 ∨ nI na ≤ x) : zd_Ct l D classes (wd_ty k) gd_T y_M_draft b_M_draft 2 (some .int) (zd_rm 1) [.ref (q 22), .int x] (wd k q v r ex) (zd_is (some (.int (nI 0))) (wd k q (upd v 10 (nI 1)) r ex)) := by
  refine zd_met gd_all (by decide) rfl (Nat.le_of_ble_eq_true rfl) (fun Z E => ?_)
  show Z (wd k q v r ex) [some (.ref (q 22)), some (.int x)] 0 []
  have hna := t.hna.2
  refine zd_aload_n E (pc := 0) d_M_draft_0 rfl ?_
  refine zd_aload_n E (pc := 1) d_M_draft_1 rfl ?_
  refine zd_iload_n E (pc := 2) d_M_draft_2 rfl ?_
  refine zd_callV E (pc := 3) d_M_draft_3 kc_M_69 rfl ki_M_noAction ke_M_noAction 22 rfl rfl (c_M_noAction l D _ t.hna.1 (by omega)) (by decide) rfl (Nat.le_of_ble_eq_true rfl) (fun v1 ws1 hv1 => ?_)
  obtain ⟨b, hc, rfl, rfl⟩ := hv1
  refine zd_bf_eq E (pc := 6) 13 d_M_draft_6 (by decide) (fun h0 => ?_) (fun h0 => ?_)
  · rcases hc with ⟨-, j, hj, rfl⟩ | ⟨z, -⟩
    · exact absurd rfl (bm_out hx (by omega) hj)
    · exact absurd z h0
  · refine zd_iconst E (pc := 9) (v := (nI 1)) d_M_draft_9 (by decide) ?_
    refine zd_goto E (pc := 10) 27 d_M_draft_10 (by decide) ?_
    refine zd_put E (pc := 27) d_M_draft_27 kp_M_44 22 rfl (Nat.le_of_ble_eq_true rfl) (ws1 := wd k q (upd v 10 (nI 1)) r ex) rfl ?_
    refine zd_aload_n E (pc := 30) d_M_draft_30 rfl ?_
    refine zd_get E (pc := 31) d_M_draft_31 kf_M_44 22 rfl rfl ?_
    refine zd_if_le E (pc := 34) 39 d_M_draft_34 (by decide) (fun h1 => ?_) (fun h1 => ?_)
    · exact absurd h1 bm_1ne0
    · refine zd_iconst E (pc := 37) (v := (nI 0)) d_M_draft_37 (by decide) ?_
      exact zd_iret E (pc := 38) d_M_draft_38 ⟨rfl, rfl⟩
set_option maxRecDepth 100000 in
set_option maxHeartbeats 4000000 in
theorem c_M_draft (l : Launch) (D : va_G) {a n : Nat} (t : tk_M v r nf na fi go co ne ad dr) (ha : a < na) (hv : v 17 = nI n) (hn : n ≤ 24) : zd_Ct l D classes (wd_ty k) gd_T y_M_draft b_M_draft 2 (some .int) (zd_rm 1) [.ref (q 22), .int (nI a)] (wd k q v r ex)
    (fun v1 w1 => (n = 24 ∧ v1 = some (.int (nI 0)) ∧ w1 = wd k q (upd v 10 (nI 2)) r ex) ∨ (n < 24 ∧ v1 = some (.int (nI (n + 1))) ∧ w1 = wd k q (upd (upd v 10 (nI 0)) 17 (nI (n + 1))) (va_up r 28 (upd (r 28) n (nI a))) ex)) := by
  refine zd_met gd_all (by decide) rfl (Nat.le_of_ble_eq_true rfl) (fun Z E => ?_)
  show Z (wd k q v r ex) [some (.ref (q 22)), some (.int (nI a))] 0 []
  have hna := t.hna.2
  refine zd_aload_n E (pc := 0) d_M_draft_0 rfl ?_
  refine zd_aload_n E (pc := 1) d_M_draft_1 rfl ?_
  refine zd_iload_n E (pc := 2) d_M_draft_2 rfl ?_
  refine zd_callV E (pc := 3) d_M_draft_3 kc_M_69 rfl ki_M_noAction ke_M_noAction 22 rfl rfl (c_M_noAction l D _ t.hna.1 (by omega)) (by decide) rfl (Nat.le_of_ble_eq_true rfl) (fun v1 ws1 hv1 => ?_)
  obtain ⟨b, hc, rfl, rfl⟩ := hv1
  refine zd_bf_eq E (pc := 6) 13 d_M_draft_6 (by decide) (fun h0 => ?_) (fun h0 => ?_)
  · refine zd_aload_n E (pc := 13) d_M_draft_13 rfl ?_
    refine zd_get E (pc := 14) d_M_draft_14 kf_M_54 22 rfl rfl ?_
    rw [hv]
    refine zd_bipush E (pc := 17) (v := (nI 24)) d_M_draft_17 (by decide) ?_
    refine zd_nc_ne E (pc := 19) 26 d_M_draft_19 (by decide) ((by omega)) ((by omega)) (fun hq => ?_) (fun hq => ?_)
    · refine zd_iconst E (pc := 26) (v := (nI 0)) d_M_draft_26 (by decide) ?_
      refine zd_put E (pc := 27) d_M_draft_27 kp_M_44 22 rfl (Nat.le_of_ble_eq_true rfl) (ws1 := wd k q (upd v 10 (nI 0)) r ex) rfl ?_
      refine zd_aload_n E (pc := 30) d_M_draft_30 rfl ?_
      refine zd_get E (pc := 31) d_M_draft_31 kf_M_44 22 rfl rfl ?_
      refine zd_if_le E (pc := 34) 39 d_M_draft_34 (by decide) (fun h1 => ?_) (fun h1 => ?_)
      · refine zd_aload_n E (pc := 39) d_M_draft_39 rfl ?_
        refine zd_get E (pc := 40) d_M_draft_40 kf_M_25 22 rfl rfl ?_
        refine zd_aload_n E (pc := 43) d_M_draft_43 rfl ?_
        refine zd_get E (pc := 44) d_M_draft_44 kf_M_54 22 rfl rfl ?_
        show Z (wd k q (upd v 10 (nI 0)) r ex) _ 47 [.int (v 17), .ref (q 28)]
        rw [hv]
        refine zd_iload_n E (pc := 47) d_M_draft_47 rfl ?_
        refine zd_iast E (pc := 48) d_M_draft_48 28 rfl (t0 := 0) rfl (n) (rfl) ((by omega)) (by decide) (ws1 := wd k q (upd v 10 (nI 0)) (va_up r 28 (upd (r 28) n (nI a))) ex) rfl ?_
        refine zd_aload_n E (pc := 49) d_M_draft_49 rfl ?_
        refine zd_dup E (pc := 50) d_M_draft_50 rfl ?_
        refine zd_get E (pc := 51) d_M_draft_51 kf_M_54 22 rfl rfl ?_
        show Z (wd k q (upd v 10 (nI 0)) (va_up r 28 (upd (r 28) n (nI a))) ex) _ 54 [.int (v 17), .ref (q 22)]
        rw [hv]
        refine zd_iconst E (pc := 54) (v := (nI 1)) d_M_draft_54 (by decide) ?_
        refine zd_iadd E (pc := 55) d_M_draft_55 ?_
        rw [nI_add]
        refine zd_put E (pc := 56) d_M_draft_56 kp_M_54 22 rfl (Nat.le_of_ble_eq_true rfl) (ws1 := wd k q (upd (upd v 10 (nI 0)) 17 (nI (n + 1))) (va_up r 28 (upd (r 28) n (nI a))) ex) rfl ?_
        refine zd_aload_n E (pc := 59) d_M_draft_59 rfl ?_
        refine zd_get E (pc := 60) d_M_draft_60 kf_M_54 22 rfl rfl ?_
        exact zd_iret E (pc := 63) d_M_draft_63 (Or.inr ⟨by omega, rfl, rfl⟩)
      · exact absurd (show nI 0 ≤ 0 by decide) h1
    · refine zd_iconst E (pc := 22) (v := (nI 2)) d_M_draft_22 (by decide) ?_
      refine zd_goto E (pc := 23) 27 d_M_draft_23 (by decide) ?_
      refine zd_put E (pc := 27) d_M_draft_27 kp_M_44 22 rfl (Nat.le_of_ble_eq_true rfl) (ws1 := wd k q (upd v 10 (nI 2)) r ex) rfl ?_
      refine zd_aload_n E (pc := 30) d_M_draft_30 rfl ?_
      refine zd_get E (pc := 31) d_M_draft_31 kf_M_44 22 rfl rfl ?_
      refine zd_if_le E (pc := 34) 39 d_M_draft_34 (by decide) (fun h1 => ?_) (fun h1 => ?_)
      · exact absurd h1 (show ¬ nI 2 ≤ 0 by decide)
      · refine zd_iconst E (pc := 37) (v := (nI 0)) d_M_draft_37 (by decide) ?_
        exact zd_iret E (pc := 38) d_M_draft_38 (Or.inl ⟨hq, rfl, rfl⟩)
  · rcases hc with ⟨z, -⟩ | ⟨-, z⟩
    · rw [z] at h0; cases h0
    · exact absurd rfl (bm_out z (by omega) ha)
set_option maxRecDepth 100000 in
set_option maxHeartbeats 4000000 in
theorem c_M_check (l : Launch) (D : va_G) {s n : Nat} {di : Nat → Nat} (t : tk_M v r nf na fi go co ne ad dr) (hs : v 15 = nI s) (hs2 : s < 1024) (hv : v 17 = nI n) (hn : n ≤ 24) (hd : ∀ j, j < n → r 28 j = nI (di j) ∧ di j < na) : zd_Ct l D classes (wd_ty k) gd_T y_M_check b_M_check 3 (some .int) (zd_rm 1) [.ref (q 22)] (wd k q v r ex) (zd_is (some (.int (tk_ck ne ad dr go di n n 0 s))) (wd k q (upd v 10 (nI 0)) r ex)) := by
  refine zd_met gd_all (by decide) rfl (Nat.le_of_ble_eq_true rfl) (fun Z E => ?_)
  show Z (wd k q v r ex) [some (.ref (q 22)), none, none] 0 []
  have hna := t.hna.2
  have t0 : tk_M (upd v 10 (nI 0)) r nf na fi go co ne ad dr := tk_mfr t rfl rfl rfl rfl rfl rfl rfl rfl
  have hv0 : upd v 10 (nI 0) 17 = nI n := hv
  have hs0 : upd v 10 (nI 0) 15 = nI s := hs
  generalize hvv : upd v 10 (nI 0) = v0 at t0 hv0 hs0 E
  have loop : ∀ (m i x : Nat), i + m = n → x < 1024 → tk_ck ne ad dr go di n n 0 s = tk_ck ne ad dr go di n m i x → Z (wd k q v0 r ex) [some (.ref (q 22)), some (.int (nI x)), some (.int (nI i))] 12 [] := by
    intro m
    induction m with
    | zero =>
      intro i x hi hx he
      refine zd_iload_n E (pc := 12) d_M_check_12 rfl ?_
      refine zd_aload_n E (pc := 13) d_M_check_13 rfl ?_
      refine zd_get E (pc := 14) d_M_check_14 kf_M_54 22 rfl rfl ?_
      rw [hv0]
      refine zd_nc_ge E (pc := 17) 54 d_M_check_17 (by decide) ((by omega)) ((by omega)) (fun hq => ?_) (fun hq => ?_)
      · refine zd_aload_n E (pc := 54) d_M_check_54 rfl ?_
        refine zd_iload_n E (pc := 55) d_M_check_55 rfl ?_
        refine zd_callV E (pc := 56) d_M_check_56 kc_M_84 rfl ki_M_isMet ke_M_isMet 22 rfl rfl (c_M_isMet l D t0) (by decide) rfl (Nat.le_of_ble_eq_true rfl) (fun v1 ws1 hv1 => ?_)
        obtain ⟨rfl, rfl⟩ := hv1
        refine zd_bf_eq E (pc := 59) 66 d_M_check_59 (by decide) (fun hb => ?_) (fun hb => ?_)
        · refine zd_aload_n E (pc := 66) d_M_check_66 rfl ?_
          refine zd_get E (pc := 67) d_M_check_67 kf_M_54 22 rfl rfl ?_
          rw [hv0]
          exact zd_iret E (pc := 70) d_M_check_70 ⟨by rw [he, tk_ck, if_neg (by simpa [tk_met] using hb)], rfl⟩
        · refine zd_iconst E (pc := 62) (v := (-1)) d_M_check_62 (by decide) ?_
          refine zd_goto E (pc := 63) 70 d_M_check_63 (by decide) ?_
          exact zd_iret E (pc := 70) d_M_check_70 ⟨by rw [he, tk_ck, if_pos (by simpa [tk_met] using hb)], rfl⟩
      · omega
    | succ m ih =>
      intro i x hi hx he
      obtain ⟨d1, d2⟩ := hd i (by omega)
      have ha12 : di i < 12 := by omega
      refine zd_iload_n E (pc := 12) d_M_check_12 rfl ?_
      refine zd_aload_n E (pc := 13) d_M_check_13 rfl ?_
      refine zd_get E (pc := 14) d_M_check_14 kf_M_54 22 rfl rfl ?_
      rw [hv0]
      refine zd_nc_ge E (pc := 17) 54 d_M_check_17 (by decide) ((by omega)) ((by omega)) (fun hq => ?_) (fun hq => ?_)
      · omega
      · refine zd_aload_n E (pc := 20) d_M_check_20 rfl ?_
        refine zd_aload_n E (pc := 21) d_M_check_21 rfl ?_
        refine zd_get E (pc := 22) d_M_check_22 kf_M_25 22 rfl rfl ?_
        refine zd_iload_n E (pc := 25) d_M_check_25 rfl ?_
        refine zd_iald E (pc := 26) d_M_check_26 28 rfl (t0 := 0) rfl (i) (rfl) ((by omega)) (by decide) ?_
        rw [d1]
        refine zd_iload_n E (pc := 27) d_M_check_27 rfl ?_
        refine zd_callV E (pc := 28) d_M_check_28 kc_M_76 rfl ki_M_can ke_M_can 22 rfl rfl (c_M_can l D t0 ha12) (by decide) rfl (Nat.le_of_ble_eq_true rfl) (fun v1 ws1 hv1 => ?_)
        obtain ⟨rfl, rfl⟩ := hv1
        refine zd_bf_ne E (pc := 31) 36 d_M_check_31 (by decide) (fun hb => ?_) (fun hb => ?_)
        · refine zd_aload_n E (pc := 36) d_M_check_36 rfl ?_
          refine zd_aload_n E (pc := 37) d_M_check_37 rfl ?_
          refine zd_get E (pc := 38) d_M_check_38 kf_M_25 22 rfl rfl ?_
          refine zd_iload_n E (pc := 41) d_M_check_41 rfl ?_
          refine zd_iald E (pc := 42) d_M_check_42 28 rfl (t0 := 0) rfl (i) (rfl) ((by omega)) (by decide) ?_
          rw [d1]
          refine zd_iload_n E (pc := 43) d_M_check_43 rfl ?_
          refine zd_callV E (pc := 44) d_M_check_44 kc_M_80 rfl ki_M_after ke_M_after 22 rfl rfl (c_M_after l D t0 ha12) (by decide) rfl (Nat.le_of_ble_eq_true rfl) (fun v1 ws1 hv1 => ?_)
          obtain ⟨rfl, rfl⟩ := hv1
          refine zd_istore_n E (pc := 47) d_M_check_47 (by decide) ?_
          refine zd_iinc E (pc := 48) d_M_check_48 rfl (bm_inc i) (by decide) ?_
          refine zd_goto E (pc := 51) 12 d_M_check_51 (by decide) ?_
          exact ih (i + 1) (tk_af ad dr (di i) x) (by omega) (t.haf ha12 hx) (by rw [he, tk_ck, if_pos (by simpa [tk_can] using hb)])
        · refine zd_iload_n E (pc := 34) d_M_check_34 rfl ?_
          exact zd_iret E (pc := 35) d_M_check_35 ⟨by rw [he, tk_ck, if_neg (by simpa [tk_can] using hb)], rfl⟩
  refine zd_aload_n E (pc := 0) d_M_check_0 rfl ?_
  refine zd_iconst E (pc := 1) (v := (nI 0)) d_M_check_1 (by decide) ?_
  refine zd_put E (pc := 2) d_M_check_2 kp_M_44 22 rfl (Nat.le_of_ble_eq_true rfl) (ws1 := wd k q (upd v 10 (nI 0)) r ex) rfl ?_
  rw [hvv]
  refine zd_aload_n E (pc := 5) d_M_check_5 rfl ?_
  refine zd_get E (pc := 6) d_M_check_6 kf_M_60 22 rfl rfl ?_
  rw [hs0]
  refine zd_istore_n E (pc := 9) d_M_check_9 (by decide) ?_
  refine zd_iconst E (pc := 10) (v := (nI 0)) d_M_check_10 (by decide) ?_
  refine zd_istore_n E (pc := 11) d_M_check_11 (by decide) ?_
  exact loop n 0 s (by omega) hs2 rfl
set_option maxRecDepth 100000 in
set_option maxHeartbeats 4000000 in
theorem c_M_cost (l : Launch) (D : va_G) {n : Nat} {di : Nat → Nat} (t : tk_M v r nf na fi go co ne ad dr) (hv : v 17 = nI n) (hn : n ≤ 24) (hd : ∀ j, j < n → r 28 j = nI (di j) ∧ di j < na) : zd_Ct l D classes (wd_ty k) gd_T y_M_cost b_M_cost 3 (some .int) (zd_rm 0) [.ref (q 22)] (wd k q v r ex) (zd_is (some (.int (nI (lm_sum (fun j => co (di j)) n)))) (wd k q (upd v 10 (nI 0)) r ex)) := by
  refine zd_met gd_all (by decide) rfl (Nat.le_of_ble_eq_true rfl) (fun Z E => ?_)
  show Z (wd k q v r ex) [some (.ref (q 22)), none, none] 0 []
  have hna := t.hna.2
  have loop : ∀ (m i : Nat), i + m = n → Z (wd k q (upd v 10 (nI 0)) r ex) [some (.ref (q 22)), some (.int (nI (lm_sum (fun j => co (di j)) i))), some (.int (nI i))] 9 [] := by
    intro m
    induction m with
    | zero =>
      intro i hi
      have e : i = n := by omega
      subst e
      refine zd_iload_n E (pc := 9) d_M_cost_9 rfl ?_
      refine zd_aload_n E (pc := 10) d_M_cost_10 rfl ?_
      refine zd_get E (pc := 11) d_M_cost_11 kf_M_54 22 rfl rfl ?_
      show Z (wd k q (upd v 10 (nI 0)) r ex) _ 14 [.int (v 17), .int (nI i)]
      rw [hv]
      refine zd_nc_ge E (pc := 14) 37 d_M_cost_14 (by decide) ((by omega)) ((by omega)) (fun hq => ?_) (fun hq => ?_)
      · refine zd_iload_n E (pc := 37) d_M_cost_37 rfl ?_
        exact zd_iret E (pc := 38) d_M_cost_38 ⟨rfl, rfl⟩
      · omega
    | succ m ih =>
      intro i hi
      obtain ⟨d1, d2⟩ := hd i (by omega)
      have c1 : r 23 (di i) = nI (co (di i)) := (t.hco (di i) (by omega)).1
      refine zd_iload_n E (pc := 9) d_M_cost_9 rfl ?_
      refine zd_aload_n E (pc := 10) d_M_cost_10 rfl ?_
      refine zd_get E (pc := 11) d_M_cost_11 kf_M_54 22 rfl rfl ?_
      show Z (wd k q (upd v 10 (nI 0)) r ex) _ 14 [.int (v 17), .int (nI i)]
      rw [hv]
      refine zd_nc_ge E (pc := 14) 37 d_M_cost_14 (by decide) ((by omega)) ((by omega)) (fun hq => ?_) (fun hq => ?_)
      · omega
      · refine zd_iload_n E (pc := 17) d_M_cost_17 rfl ?_
        refine zd_aload_n E (pc := 18) d_M_cost_18 rfl ?_
        refine zd_get E (pc := 19) d_M_cost_19 kf_M_7 22 rfl rfl ?_
        refine zd_aload_n E (pc := 22) d_M_cost_22 rfl ?_
        refine zd_get E (pc := 23) d_M_cost_23 kf_M_25 22 rfl rfl ?_
        refine zd_iload_n E (pc := 26) d_M_cost_26 rfl ?_
        refine zd_iald E (pc := 27) d_M_cost_27 28 rfl (t0 := 0) rfl (i) (rfl) ((by omega)) (by decide) ?_
        rw [d1]
        refine zd_iald E (pc := 28) d_M_cost_28 23 rfl (t0 := 0) rfl (di i) (rfl) ((by omega)) (by decide) ?_
        rw [c1]
        refine zd_iadd E (pc := 29) d_M_cost_29 ?_
        rw [nI_add]
        refine zd_istore_n E (pc := 30) d_M_cost_30 (by decide) ?_
        refine zd_iinc E (pc := 31) d_M_cost_31 rfl (bm_inc i) (by decide) ?_
        refine zd_goto E (pc := 34) 9 d_M_cost_34 (by decide) ?_
        exact ih (i + 1) (by omega)
  refine zd_aload_n E (pc := 0) d_M_cost_0 rfl ?_
  refine zd_iconst E (pc := 1) (v := (nI 0)) d_M_cost_1 (by decide) ?_
  refine zd_put E (pc := 2) d_M_cost_2 kp_M_44 22 rfl (Nat.le_of_ble_eq_true rfl) (ws1 := wd k q (upd v 10 (nI 0)) r ex) rfl ?_
  refine zd_iconst E (pc := 5) (v := (nI 0)) d_M_cost_5 (by decide) ?_
  refine zd_istore_n E (pc := 6) d_M_cost_6 (by decide) ?_
  refine zd_iconst E (pc := 7) (v := (nI 0)) d_M_cost_7 (by decide) ?_
  refine zd_istore_n E (pc := 8) d_M_cost_8 (by decide) ?_
  exact loop n 0 (by omega)
end M3
end
section
/-! The reference: findCosts, bestAction, plan. -/
def md_I (N na : Nat) (can : Nat → Nat → Bool) (af : Nat → Nat → Nat) (co : Nat → Nat) (met : Nat → Bool) (E : Nat) (D : Nat → Nat) : Prop :=
  (∀ s, s < N → D s ≤ E) ∧ (∀ s, s < N → D s < E → ∃ t, met t = true ∧ gw_R na can af co s t (D s)) ∧ (∀ s, s < N → met s = true → D s = 0)
theorem md_I_up {N na : Nat} {can : Nat → Nat → Bool} {af : Nat → Nat → Nat} {co : Nat → Nat} {met : Nat → Bool} {E : Nat} {D : Nat → Nat} {s a : Nat} (h : md_I N na can af co met E D) (hN : af a s < N) (hs : s < N) (ha : a < na) (hc : can a s = true) (hl : co a + D (af a s) < D s) : md_I N na can af co met E (va_up D s (co a + D (af a s))) := by
  obtain ⟨h1, h2, h3⟩ := h
  have hE := h1 s hs
  refine ⟨fun x hx => ?_, fun x hx hd => ?_, fun x hx hm => ?_⟩
  · by_cases e : x = s
    · subst e; rw [va_up_self]; omega
    · rw [va_up_ne _ _ e]; exact h1 x hx
  · by_cases e : x = s
    · subst e
      rw [va_up_self] at hd ⊢
      obtain ⟨t, ht, hr⟩ := h2 (af a x) hN (by omega)
      exact ⟨t, ht, gw_R_l ha hc hr⟩
    · rw [va_up_ne _ _ e] at hd ⊢; exact h2 x hx hd
  · by_cases e : x = s
    · subst e
      have := h3 x hx hm
      omega
    · rw [va_up_ne _ _ e]; exact h3 x hx hm
theorem md_sum_up {N : Nat} {D : Nat → Nat} {s x : Nat} (hs : s < N) (hl : x < D s) : lm_sum (va_up D s x) N < lm_sum D N := lm_sum_lt (fun f _ => by
    by_cases e : f = s
    · subst e; rw [va_up_self]; omega
    · rw [va_up_ne _ _ e]; exact Nat.le_refl _) ⟨s, hs, by rw [va_up_self]; exact hl⟩
/-- off a state that isn't met yet, and has a way: the next action -/
theorem pl_next {N na : Nat} {can : Nat → Nat → Bool} {af : Nat → Nat → Nat} {co : Nat → Nat} {met : Nat → Bool} {E : Nat} {D : Nat → Nat} {s : Nat} (hN : ∀ s a, s < N → a < na → can a s = true → af a s < N) (h : gw_dear N na can af co met E D) (hs : s < N) (h0 : 0 < D s) (hE : D s < E) :
    pl_nx na can af co D s < na ∧ can (pl_nx na can af co D s) s = true ∧ co (pl_nx na can af co D s) + D (af (pl_nx na can af co D s) s) = D s := by
  obtain ⟨t, ht, k, hp⟩ := h.2.1 s hs hE
  cases k with
  | zero => obtain ⟨-, z⟩ := hp; omega
  | succ k =>
    obtain ⟨a, c', ha, hc, hp, he⟩ := hp
    have h1 := gw_dear_le hN h ht (hN s a hs ha hc) hp
    have h2 := h.2.2.2 s a hs ha hc
    have hP : (can a s && decide (co a + D (af a s) = D s)) = true := by
      rw [hc]
      simp only [Bool.true_and, decide_eq_true_eq]
      omega
    obtain ⟨s1, s2⟩ := gw_find_spec (fun b => can b s && decide (co b + D (af b s) = D s)) na
    have hlt : gw_find (fun b => can b s && decide (co b + D (af b s) = D s)) na < na := by
      by_cases z : gw_find (fun b => can b s && decide (co b + D (af b s) = D s)) na < na
      · exact z
      · have := s1 a (by omega)
        rw [hP] at this; cases this
    have := s2 hlt
    simp only [Bool.and_eq_true, decide_eq_true_eq] at this
    exact ⟨hlt, this.1, this.2⟩
section M4
variable {k : Nat → ClassId} {q : Nat → Nat} {v : Nat → Int32} {r : Nat → Nat → Int32} {ex : va_W} {nf na fi go : Nat} {co ne ad dr : Nat → Nat}
set_option maxRecDepth 100000 in
set_option maxHeartbeats 4000000 in
theorem c_M_findCosts (l : Launch) (D : va_G) (t : tk_M v r nf na fi go co ne ad dr) : zd_Ct l D classes (wd_ty k) gd_T y_M_findCosts b_M_findCosts 5 none (zd_rm 1) [.ref (q 22)] (wd k q v r ex)
    (fun v1 w1 => ∃ (r2 : Nat → Nat → Int32) (W : Nat → Nat), (∀ i, i ≠ 29 → r2 i = r i) ∧ (∀ s, s < 2 ^ nf → r2 29 s = nI (W s)) ∧ gw_dear (2 ^ nf) na (tk_can ne) (tk_af ad dr) co (tk_met go) 1048576 W ∧ v1 = none ∧ w1 = wd k q v r2 ex) := by
  refine zd_met gd_all (by decide) rfl (Nat.le_of_ble_eq_true rfl) (fun Z E => ?_)
  show Z (wd k q v r ex) [some (.ref (q 22)), none, none, none, none] 0 []
  have hnf := t.2.2.1.1
  have hna := t.hna.2
  have hN := t.n31
  have h11 : v 11 = nI nf := t.1.1
  have h14 : v 14 = nI na := t.hna.1
  have haf : ∀ s a, s < 2 ^ nf → a < 12 → tk_af ad dr a s < 2 ^ nf := fun s a hs ha => tk_af_lt hs (t.2.2.2.1 a ha).2.2.1
  have tr : ∀ r1 : Nat → Nat → Int32, (∀ i, i ≠ 29 → r1 i = r i) → tk_M v r1 nf na fi go co ne ad dr := fun r1 hf => tk_mfr t rfl rfl rfl rfl (hf 23 (by decide)) (hf 24 (by decide)) (hf 25 (by decide)) (hf 26 (by decide))
  -- one state, all actions
  have acts : ∀ (m a s : Nat) (D0 D1 : Nat → Nat) (b : Bool) (r1 : Nat → Nat → Int32), a + m = na → s < 2 ^ nf → (∀ i, i ≠ 29 → r1 i = r i) → (∀ x, x < 2 ^ nf → r1 29 x = nI (D1 x)) → md_I (2 ^ nf) na (tk_can ne) (tk_af ad dr) co (tk_met go) 1048576 D1 → (b = true → lm_sum D1 (2 ^ nf) < lm_sum D0 (2 ^ nf)) → (b = false → D1 = D0 ∧ ∀ x c, (x < s ∧ c < na ∨ x = s ∧ c < a) → tk_can ne c x = true → D0 x ≤ co c + D0 (tk_af ad dr c x)) →
      (∀ (D1 : Nat → Nat) (b : Bool) (r1 : Nat → Nat → Int32) (L4 : Option Value), (∀ i, i ≠ 29 → r1 i = r i) → (∀ x, x < 2 ^ nf → r1 29 x = nI (D1 x)) → md_I (2 ^ nf) na (tk_can ne) (tk_af ad dr) co (tk_met go) 1048576 D1 → (b = true → lm_sum D1 (2 ^ nf) < lm_sum D0 (2 ^ nf)) → (b = false → D1 = D0 ∧ ∀ x c, x < s + 1 ∧ c < na → tk_can ne c x = true → D0 x ≤ co c + D0 (tk_af ad dr c x)) → Z (wd k q v r1 ex) [some (.ref (q 22)), some (.int (nI (2 ^ nf))), some (.int (nI (bm_b b))), some (.int (nI s)), L4] 140 []) →
      Z (wd k q v r1 ex) [some (.ref (q 22)), some (.int (nI (2 ^ nf))), some (.int (nI (bm_b b))), some (.int (nI s)), some (.int (nI a))] 58 [] := by
    intro m
    induction m with
    | zero =>
      intro a s D0 D1 b r1 ha hs hf hr hI hb1 hb0 kk
      have e : a = na := by omega
      subst e
      refine zd_iload E (pc := 58) d_M_findCosts_58 rfl ?_
      refine zd_aload_n E (pc := 60) d_M_findCosts_60 rfl ?_
      refine zd_get E (pc := 61) d_M_findCosts_61 kf_M_51 22 rfl rfl ?_
      rw [h14]
      refine zd_nc_ge E (pc := 64) 140 d_M_findCosts_64 (by decide) ((by omega)) ((by omega)) (fun hq => ?_) (fun hq => ?_)
      · exact kk D1 b r1 _ hf hr hI hb1 (fun z => ⟨(hb0 z).1, fun x c hx hc => (hb0 z).2 x c (by omega) hc⟩)
      · omega
    | succ m ih =>
      intro a s D0 D1 b r1 ha hs hf hr hI hb1 hb0 kk
      have ha12 : a < 12 := by omega
      have t1 := tr r1 hf
      have c1 : r1 23 a = nI (co a) := (t1.hco a ha12).1
      have c9 := (t1.hco a ha12).2
      have hafs := haf s a hs ha12
      have dE := hI.1 (tk_af ad dr a s) hafs
      have dEs := hI.1 s hs
      have tail : ∀ (D1 : Nat → Nat) (b : Bool) (r1 : Nat → Nat → Int32), (∀ i, i ≠ 29 → r1 i = r i) → (∀ x, x < 2 ^ nf → r1 29 x = nI (D1 x)) → md_I (2 ^ nf) na (tk_can ne) (tk_af ad dr) co (tk_met go) 1048576 D1 → (b = true → lm_sum D1 (2 ^ nf) < lm_sum D0 (2 ^ nf)) → (b = false → D1 = D0 ∧ ∀ x c, (x < s ∧ c < na ∨ x = s ∧ c < a + 1) → tk_can ne c x = true → D0 x ≤ co c + D0 (tk_af ad dr c x)) → Z (wd k q v r1 ex) [some (.ref (q 22)), some (.int (nI (2 ^ nf))), some (.int (nI (bm_b b))), some (.int (nI s)), some (.int (nI a))] 134 [] := by
        intro D1 b r1 hf hr hI hb1 hb0
        refine zd_iinc E (pc := 134) d_M_findCosts_134 rfl (bm_inc a) (by decide) ?_
        refine zd_goto E (pc := 137) 58 d_M_findCosts_137 (by decide) ?_
        exact ih (a + 1) s D0 D1 b r1 (by omega) hs hf hr hI hb1 hb0 kk
      have more : (b = false → tk_can ne a s = true → D0 s ≤ co a + D0 (tk_af ad dr a s)) → Z (wd k q v r1 ex) [some (.ref (q 22)), some (.int (nI (2 ^ nf))), some (.int (nI (bm_b b))), some (.int (nI s)), some (.int (nI a))] 134 [] := fun hz =>
        tail D1 b r1 hf hr hI hb1 (fun z => ⟨(hb0 z).1, fun x c hx hc => by
          by_cases e : x = s ∧ c = a
          · obtain ⟨rfl, rfl⟩ := e; exact hz z hc
          · exact (hb0 z).2 x c (by omega) hc⟩)
      refine zd_iload E (pc := 58) d_M_findCosts_58 rfl ?_
      refine zd_aload_n E (pc := 60) d_M_findCosts_60 rfl ?_
      refine zd_get E (pc := 61) d_M_findCosts_61 kf_M_51 22 rfl rfl ?_
      rw [h14]
      refine zd_nc_ge E (pc := 64) 140 d_M_findCosts_64 (by decide) ((by omega)) ((by omega)) (fun hq => ?_) (fun hq => ?_)
      · omega
      · refine zd_aload_n E (pc := 67) d_M_findCosts_67 rfl ?_
        refine zd_iload E (pc := 68) d_M_findCosts_68 rfl ?_
        refine zd_iload_n E (pc := 70) d_M_findCosts_70 rfl ?_
        refine zd_callV E (pc := 71) d_M_findCosts_71 kc_M_76 rfl ki_M_can ke_M_can 22 rfl rfl (c_M_can l D t1 ha12) (by decide) rfl (Nat.le_of_ble_eq_true rfl) (fun v1 ws1 hv1 => ?_)
        obtain ⟨rfl, rfl⟩ := hv1
        refine zd_bf_eq E (pc := 74) 134 d_M_findCosts_74 (by decide) (fun hcan => ?_) (fun hcan => ?_)
        · exact more (fun _ z => absurd z hcan)
        · refine zd_aload_n E (pc := 77) d_M_findCosts_77 rfl ?_
          refine zd_get E (pc := 78) d_M_findCosts_78 kf_M_7 22 rfl rfl ?_
          refine zd_iload E (pc := 81) d_M_findCosts_81 rfl ?_
          refine zd_iald E (pc := 83) d_M_findCosts_83 23 rfl (t0 := 0) rfl (a) (rfl) (ha12) (by decide) ?_
          rw [c1]
          refine zd_aload_n E (pc := 84) d_M_findCosts_84 rfl ?_
          refine zd_get E (pc := 85) d_M_findCosts_85 kf_M_28 22 rfl rfl ?_
          refine zd_aload_n E (pc := 88) d_M_findCosts_88 rfl ?_
          refine zd_iload E (pc := 89) d_M_findCosts_89 rfl ?_
          refine zd_iload_n E (pc := 91) d_M_findCosts_91 rfl ?_
          refine zd_callV E (pc := 92) d_M_findCosts_92 kc_M_80 rfl ki_M_after ke_M_after 22 rfl rfl (c_M_after l D t1 ha12) (by decide) rfl (Nat.le_of_ble_eq_true rfl) (fun v1 ws1 hv1 => ?_)
          obtain ⟨rfl, rfl⟩ := hv1
          refine zd_iald E (pc := 95) d_M_findCosts_95 29 rfl (t0 := 0) rfl (tk_af ad dr a s) (rfl) ((by omega)) (by decide) ?_
          rw [hr _ hafs]
          refine zd_iadd E (pc := 96) d_M_findCosts_96 ?_
          rw [nI_add]
          refine zd_aload_n E (pc := 97) d_M_findCosts_97 rfl ?_
          refine zd_get E (pc := 98) d_M_findCosts_98 kf_M_28 22 rfl rfl ?_
          refine zd_iload_n E (pc := 101) d_M_findCosts_101 rfl ?_
          refine zd_iald E (pc := 102) d_M_findCosts_102 29 rfl (t0 := 0) rfl (s) (rfl) ((by omega)) (by decide) ?_
          rw [hr s hs]
          refine zd_nc_ge E (pc := 103) 134 d_M_findCosts_103 (by decide) ((by omega)) ((by omega)) (fun hlt => ?_) (fun hlt => ?_)
          · exact more (fun z _ => by rw [← (hb0 z).1]; exact hlt)
          · refine zd_aload_n E (pc := 106) d_M_findCosts_106 rfl ?_
            refine zd_get E (pc := 107) d_M_findCosts_107 kf_M_28 22 rfl rfl ?_
            refine zd_iload_n E (pc := 110) d_M_findCosts_110 rfl ?_
            refine zd_aload_n E (pc := 111) d_M_findCosts_111 rfl ?_
            refine zd_get E (pc := 112) d_M_findCosts_112 kf_M_7 22 rfl rfl ?_
            refine zd_iload E (pc := 115) d_M_findCosts_115 rfl ?_
            refine zd_iald E (pc := 117) d_M_findCosts_117 23 rfl (t0 := 0) rfl (a) (rfl) (ha12) (by decide) ?_
            rw [c1]
            refine zd_aload_n E (pc := 118) d_M_findCosts_118 rfl ?_
            refine zd_get E (pc := 119) d_M_findCosts_119 kf_M_28 22 rfl rfl ?_
            refine zd_aload_n E (pc := 122) d_M_findCosts_122 rfl ?_
            refine zd_iload E (pc := 123) d_M_findCosts_123 rfl ?_
            refine zd_iload_n E (pc := 125) d_M_findCosts_125 rfl ?_
            refine zd_callV E (pc := 126) d_M_findCosts_126 kc_M_80 rfl ki_M_after ke_M_after 22 rfl rfl (c_M_after l D t1 ha12) (by decide) rfl (Nat.le_of_ble_eq_true rfl) (fun v1 ws1 hv1 => ?_)
            obtain ⟨rfl, rfl⟩ := hv1
            refine zd_iald E (pc := 129) d_M_findCosts_129 29 rfl (t0 := 0) rfl (tk_af ad dr a s) (rfl) ((by omega)) (by decide) ?_
            rw [hr _ hafs]
            refine zd_iadd E (pc := 130) d_M_findCosts_130 ?_
            rw [nI_add]
            refine zd_iast E (pc := 131) d_M_findCosts_131 29 rfl (t0 := 0) rfl (s) (rfl) ((by omega)) (by decide) (ws1 := wd k q v (va_up r1 29 (upd (r1 29) s (nI (co a + D1 (tk_af ad dr a s))))) ex) rfl ?_
            refine zd_iconst E (pc := 132) (v := (nI 1)) d_M_findCosts_132 (by decide) ?_
            refine zd_istore_n E (pc := 133) d_M_findCosts_133 (by decide) ?_
            refine tail (va_up D1 s (co a + D1 (tk_af ad dr a s))) true _ (fun i hi => by rw [va_up_ne _ _ hi]; exact hf i hi) (fun x hx => ?_) (md_I_up hI hafs hs (by omega) hcan hlt) (fun _ => ?_) (fun z => by cases z)
            · rw [va_up_self]
              by_cases e : x = s
              · subst e; rw [pk_us, va_up_self]
              · rw [pk_un e, va_up_ne _ _ e]; exact hr x hx
            · have h1 := md_sum_up hs hlt
              cases b with
              | true => have := hb1 rfl; omega
              | false => rw [(hb0 rfl).1] at h1 ⊢; exact h1
  have pass : ∀ (m s : Nat) (D0 D1 : Nat → Nat) (b : Bool) (r1 : Nat → Nat → Int32) (L4 : Option Value), s + m = 2 ^ nf → (∀ i, i ≠ 29 → r1 i = r i) → (∀ x, x < 2 ^ nf → r1 29 x = nI (D1 x)) → md_I (2 ^ nf) na (tk_can ne) (tk_af ad dr) co (tk_met go) 1048576 D1 → (b = true → lm_sum D1 (2 ^ nf) < lm_sum D0 (2 ^ nf)) → (b = false → D1 = D0 ∧ ∀ x c, x < s ∧ c < na → tk_can ne c x = true → D0 x ≤ co c + D0 (tk_af ad dr c x)) →
      (∀ (D1 : Nat → Nat) (b : Bool) (r1 : Nat → Nat → Int32) (L3 L4 : Option Value), (∀ i, i ≠ 29 → r1 i = r i) → (∀ x, x < 2 ^ nf → r1 29 x = nI (D1 x)) → md_I (2 ^ nf) na (tk_can ne) (tk_af ad dr) co (tk_met go) 1048576 D1 → (b = true → lm_sum D1 (2 ^ nf) < lm_sum D0 (2 ^ nf)) → (b = false → D1 = D0 ∧ ∀ x c, x < 2 ^ nf → c < na → tk_can ne c x = true → D0 x ≤ co c + D0 (tk_af ad dr c x)) → Z (wd k q v r1 ex) [some (.ref (q 22)), some (.int (nI (2 ^ nf))), some (.int (nI (bm_b b))), L3, L4] 146 []) →
      Z (wd k q v r1 ex) [some (.ref (q 22)), some (.int (nI (2 ^ nf))), some (.int (nI (bm_b b))), some (.int (nI s)), L4] 50 [] := by
    intro m
    induction m with
    | zero =>
      intro s D0 D1 b r1 L4 hs hf hr hI hb1 hb0 kk
      have e : s = 2 ^ nf := by omega
      subst e
      refine zd_iload_n E (pc := 50) d_M_findCosts_50 rfl ?_
      refine zd_iload_n E (pc := 51) d_M_findCosts_51 rfl ?_
      refine zd_nc_ge E (pc := 52) 146 d_M_findCosts_52 (by decide) ((by omega)) ((by omega)) (fun hq => ?_) (fun hq => ?_)
      · exact kk D1 b r1 _ _ hf hr hI hb1 (fun z => ⟨(hb0 z).1, fun x c hx hc hcan => (hb0 z).2 x c ⟨hx, hc⟩ hcan⟩)
      · omega
    | succ m ih =>
      intro s D0 D1 b r1 L4 hs hf hr hI hb1 hb0 kk
      refine zd_iload_n E (pc := 50) d_M_findCosts_50 rfl ?_
      refine zd_iload_n E (pc := 51) d_M_findCosts_51 rfl ?_
      refine zd_nc_ge E (pc := 52) 146 d_M_findCosts_52 (by decide) ((by omega)) ((by omega)) (fun hq => ?_) (fun hq => ?_)
      · omega
      · refine zd_iconst E (pc := 55) (v := (nI 0)) d_M_findCosts_55 (by decide) ?_
        refine zd_istore E (pc := 56) d_M_findCosts_56 (by decide) ?_
        refine acts na 0 s D0 D1 b r1 (by omega) (by omega) hf hr hI hb1 (fun z => ⟨(hb0 z).1, fun x c hx hc => (hb0 z).2 x c (by omega) hc⟩) (fun D2 b2 r2 L4 hf2 hr2 hI2 hb12 hb02 => ?_)
        refine zd_iinc E (pc := 140) d_M_findCosts_140 rfl (bm_inc s) (by decide) ?_
        refine zd_goto E (pc := 143) 50 d_M_findCosts_143 (by decide) ?_
        exact ih (s + 1) D0 D2 b2 r2 L4 (by omega) hf2 hr2 hI2 hb12 hb02 kk
  have whole : ∀ (B : Nat) (D0 : Nat → Nat) (r1 : Nat → Nat → Int32) (L3 L4 : Option Value), lm_sum D0 (2 ^ nf) ≤ B → (∀ i, i ≠ 29 → r1 i = r i) → (∀ x, x < 2 ^ nf → r1 29 x = nI (D0 x)) → md_I (2 ^ nf) na (tk_can ne) (tk_af ad dr) co (tk_met go) 1048576 D0 → Z (wd k q v r1 ex) [some (.ref (q 22)), some (.int (nI (2 ^ nf))), some (.int (nI (bm_b true))), L3, L4] 42 [] := by
    intro B
    induction B with
    | zero =>
      intro D0 r1 L3 L4 hB hf hr hI
      refine zd_iload_n E (pc := 42) d_M_findCosts_42 rfl ?_
      refine zd_bf_eq E (pc := 43) 149 d_M_findCosts_43 (by decide) (fun hb => ?_) (fun hb => ?_)
      · exact absurd rfl hb
      · refine zd_iconst E (pc := 46) (v := (nI 0)) d_M_findCosts_46 (by decide) ?_
        refine zd_istore_n E (pc := 47) d_M_findCosts_47 (by decide) ?_
        refine zd_iconst E (pc := 48) (v := (nI 0)) d_M_findCosts_48 (by decide) ?_
        refine zd_istore_n E (pc := 49) d_M_findCosts_49 (by decide) ?_
        refine pass (2 ^ nf) 0 D0 D0 false r1 L4 (by omega) hf hr hI (fun z => by cases z) (fun _ => ⟨rfl, fun x c hx => by omega⟩) (fun D2 b2 r2 L3 L4 hf2 hr2 hI2 hb12 hb02 => ?_)
        refine zd_goto E (pc := 146) 42 d_M_findCosts_146 (by decide) ?_
        cases b2 with
        | true => have := hb12 rfl; omega
        | false =>
          obtain ⟨rfl, hfix⟩ := hb02 rfl
          refine zd_iload_n E (pc := 42) d_M_findCosts_42 rfl ?_
          refine zd_bf_eq E (pc := 43) 149 d_M_findCosts_43 (by decide) (fun hb2 => ?_) (fun hb2 => ?_)
          · exact zd_vret E (pc := 149) d_M_findCosts_149 ⟨r2, D2, hf2, hr2, ⟨hI2.1, hI2.2.1, hI2.2.2, fun s a hs ha hc => hfix s a hs ha hc⟩, rfl, rfl⟩
          · cases hb2
    | succ B ih =>
      intro D0 r1 L3 L4 hB hf hr hI
      refine zd_iload_n E (pc := 42) d_M_findCosts_42 rfl ?_
      refine zd_bf_eq E (pc := 43) 149 d_M_findCosts_43 (by decide) (fun hb => ?_) (fun hb => ?_)
      · exact absurd rfl hb
      · refine zd_iconst E (pc := 46) (v := (nI 0)) d_M_findCosts_46 (by decide) ?_
        refine zd_istore_n E (pc := 47) d_M_findCosts_47 (by decide) ?_
        refine zd_iconst E (pc := 48) (v := (nI 0)) d_M_findCosts_48 (by decide) ?_
        refine zd_istore_n E (pc := 49) d_M_findCosts_49 (by decide) ?_
        refine pass (2 ^ nf) 0 D0 D0 false r1 L4 (by omega) hf hr hI (fun z => by cases z) (fun _ => ⟨rfl, fun x c hx => by omega⟩) (fun D2 b2 r2 L3 L4 hf2 hr2 hI2 hb12 hb02 => ?_)
        refine zd_goto E (pc := 146) 42 d_M_findCosts_146 (by decide) ?_
        cases b2 with
        | true =>
          have := hb12 rfl
          exact ih D2 r2 L3 L4 (by omega) hf2 hr2 hI2
        | false =>
          obtain ⟨rfl, hfix⟩ := hb02 rfl
          refine zd_iload_n E (pc := 42) d_M_findCosts_42 rfl ?_
          refine zd_bf_eq E (pc := 43) 149 d_M_findCosts_43 (by decide) (fun hb2 => ?_) (fun hb2 => ?_)
          · exact zd_vret E (pc := 149) d_M_findCosts_149 ⟨r2, D2, hf2, hr2, ⟨hI2.1, hI2.2.1, hI2.2.2, fun s a hs ha hc => hfix s a hs ha hc⟩, rfl, rfl⟩
          · cases hb2
  have inits : ∀ (m s : Nat) (r1 : Nat → Nat → Int32), s + m = 2 ^ nf → (∀ i, i ≠ 29 → r1 i = r i) → (∀ x, x < s → r1 29 x = nI (if tk_met go x = true then 0 else 1048576)) → Z (wd k q v r1 ex) [some (.ref (q 22)), some (.int (nI (2 ^ nf))), some (.int (nI s)), none, none] 9 [] := by
    intro m
    induction m with
    | zero =>
      intro s r1 hs hf hr
      have e : s = 2 ^ nf := by omega
      subst e
      refine zd_iload_n E (pc := 9) d_M_findCosts_9 rfl ?_
      refine zd_iload_n E (pc := 10) d_M_findCosts_10 rfl ?_
      refine zd_nc_ge E (pc := 11) 40 d_M_findCosts_11 (by decide) ((by omega)) ((by omega)) (fun hq => ?_) (fun hq => ?_)
      · refine zd_iconst E (pc := 40) (v := (nI 1)) d_M_findCosts_40 (by decide) ?_
        refine zd_istore_n E (pc := 41) d_M_findCosts_41 (by decide) ?_
        refine whole _ (fun x => if tk_met go x = true then 0 else 1048576) r1 none none (Nat.le_refl _) hf hr ⟨fun x hx => ?_, fun x hx hd => ?_, fun x hx hm => ?_⟩
        · show (if tk_met go x = true then 0 else 1048576) ≤ 1048576
          split <;> omega
        · have hd : (if tk_met go x = true then 0 else 1048576) < 1048576 := hd
          by_cases hm : tk_met go x = true
          · refine ⟨x, hm, ?_⟩
            show gw_R na (tk_can ne) (tk_af ad dr) co x x (if tk_met go x = true then 0 else 1048576)
            rw [if_pos hm]
            exact gw_R_0 x
          · rw [if_neg hm] at hd; omega
        · show (if tk_met go x = true then 0 else 1048576) = 0
          rw [if_pos hm]
      · omega
    | succ m ih =>
      intro s r1 hs hf hr
      have t1 := tr r1 hf
      have fin : ∀ x, x = (if tk_met go s = true then 0 else 1048576) → Z (wd k q v r1 ex) [some (.ref (q 22)), some (.int (nI (2 ^ nf))), some (.int (nI s)), none, none] 33 [.int (nI x), .int (nI s), .ref (q 29)] := by
        intro x hx
        refine zd_iast E (pc := 33) d_M_findCosts_33 29 rfl (t0 := 0) rfl (s) (rfl) ((by omega)) (by decide) (ws1 := wd k q v (va_up r1 29 (upd (r1 29) s (nI x))) ex) rfl ?_
        refine zd_iinc E (pc := 34) d_M_findCosts_34 rfl (bm_inc s) (by decide) ?_
        refine zd_goto E (pc := 37) 9 d_M_findCosts_37 (by decide) ?_
        refine ih (s + 1) _ (by omega) (fun i hi => by rw [va_up_ne _ _ hi]; exact hf i hi) (fun y hy => ?_)
        rw [va_up_self]
        by_cases e : y = s
        · subst e; rw [pk_us, hx]
        · rw [pk_un e]; exact hr y (by omega)
      refine zd_iload_n E (pc := 9) d_M_findCosts_9 rfl ?_
      refine zd_iload_n E (pc := 10) d_M_findCosts_10 rfl ?_
      refine zd_nc_ge E (pc := 11) 40 d_M_findCosts_11 (by decide) ((by omega)) ((by omega)) (fun hq => ?_) (fun hq => ?_)
      · omega
      · refine zd_aload_n E (pc := 14) d_M_findCosts_14 rfl ?_
        refine zd_get E (pc := 15) d_M_findCosts_15 kf_M_28 22 rfl rfl ?_
        refine zd_iload_n E (pc := 18) d_M_findCosts_18 rfl ?_
        refine zd_aload_n E (pc := 19) d_M_findCosts_19 rfl ?_
        refine zd_iload_n E (pc := 20) d_M_findCosts_20 rfl ?_
        refine zd_callV E (pc := 21) d_M_findCosts_21 kc_M_84 rfl ki_M_isMet ke_M_isMet 22 rfl rfl (c_M_isMet l D t1) (by decide) rfl (Nat.le_of_ble_eq_true rfl) (fun v1 ws1 hv1 => ?_)
        obtain ⟨rfl, rfl⟩ := hv1
        refine zd_bf_eq E (pc := 24) 31 d_M_findCosts_24 (by decide) (fun hm => ?_) (fun hm => ?_)
        · refine zd_ldc E (pc := 31) (v := (nI 1048576)) d_M_findCosts_31 kk_M_87 ?_
          exact fin 1048576 (by rw [if_neg hm])
        · refine zd_iconst E (pc := 27) (v := (nI 0)) d_M_findCosts_27 (by decide) ?_
          refine zd_goto E (pc := 28) 33 d_M_findCosts_28 (by decide) ?_
          exact fin 0 (by rw [if_pos hm])
  refine zd_iconst E (pc := 0) (v := (nI 1)) d_M_findCosts_0 (by decide) ?_
  refine zd_aload_n E (pc := 1) d_M_findCosts_1 rfl ?_
  refine zd_get E (pc := 2) d_M_findCosts_2 kf_M_48 22 rfl rfl ?_
  rw [h11]
  refine zd_ishl E (pc := 5) d_M_findCosts_5 ?_
  rw [bm_one (by omega)]
  refine zd_istore_n E (pc := 6) d_M_findCosts_6 (by decide) ?_
  refine zd_iconst E (pc := 7) (v := (nI 0)) d_M_findCosts_7 (by decide) ?_
  refine zd_istore_n E (pc := 8) d_M_findCosts_8 (by decide) ?_
  exact inits (2 ^ nf) 0 r (by omega) (fun _ _ => rfl) (fun x hx => by omega)
set_option maxRecDepth 100000 in
set_option maxHeartbeats 4000000 in
theorem c_M_bestAction (l : Launch) (D : va_G) {s : Nat} {W : Nat → Nat} (t : tk_M v r nf na fi go co ne ad dr) (hs : s < 2 ^ nf) (hr : ∀ s, s < 2 ^ nf → r 29 s = nI (W s)) (hW : ∀ s, s < 2 ^ nf → W s ≤ 1048576) (hlt : pl_nx na (tk_can ne) (tk_af ad dr) co W s < na) : zd_Ct l D classes (wd_ty k) gd_T y_M_bestAction b_M_bestAction 3 (some .int) (zd_rm 1) [.ref (q 22), .int (nI s)] (wd k q v r ex) (zd_is (some (.int (nI (pl_nx na (tk_can ne) (tk_af ad dr) co W s)))) (wd k q v r ex)) := by
  refine zd_met gd_all (by decide) rfl (Nat.le_of_ble_eq_true rfl) (fun Z E => ?_)
  show Z (wd k q v r ex) [some (.ref (q 22)), some (.int (nI s)), none] 0 []
  have hna := t.hna.2
  have hN := t.n31
  have h14 : v 14 = nI na := t.hna.1
  have haf : ∀ a, a < 12 → tk_af ad dr a s < 2 ^ nf := fun a ha => tk_af_lt hs (t.2.2.2.1 a ha).2.2.1
  have loop : ∀ (m a : Nat), a + m = na → (∀ b, b < a → (tk_can ne b s && decide (co b + W (tk_af ad dr b s) = W s)) = false) → Z (wd k q v r ex) [some (.ref (q 22)), some (.int (nI s)), some (.int (nI a))] 2 [] := by
    intro m
    induction m with
    | zero =>
      intro a ha hno
      exfalso
      have h2 := (gw_find_spec (fun b => tk_can ne b s && decide (co b + W (tk_af ad dr b s) = W s)) na).2 hlt
      have h3 := hno (pl_nx na (tk_can ne) (tk_af ad dr) co W s) (by omega)
      have h2 : (tk_can ne (pl_nx na (tk_can ne) (tk_af ad dr) co W s) s && decide (co (pl_nx na (tk_can ne) (tk_af ad dr) co W s) + W (tk_af ad dr (pl_nx na (tk_can ne) (tk_af ad dr) co W s) s) = W s)) = true := h2
      rw [h3] at h2; cases h2
    | succ m ih =>
      intro a ha hno
      have ha12 : a < 12 := by omega
      have c1 : r 23 a = nI (co a) := (t.hco a ha12).1
      have c9 := (t.hco a ha12).2
      have hafs := haf a ha12
      have w1 := hW _ hafs
      have w2 := hW _ hs
      have tail : (tk_can ne a s && decide (co a + W (tk_af ad dr a s) = W s)) = false → Z (wd k q v r ex) [some (.ref (q 22)), some (.int (nI s)), some (.int (nI a))] 48 [] := by
        intro hz
        refine zd_iinc E (pc := 48) d_M_bestAction_48 rfl (bm_inc a) (by decide) ?_
        refine zd_goto E (pc := 51) 2 d_M_bestAction_51 (by decide) ?_
        refine ih (a + 1) (by omega) (fun b hb => ?_)
        by_cases e : b = a
        · subst e; exact hz
        · exact hno b (by omega)
      refine zd_iload_n E (pc := 2) d_M_bestAction_2 rfl ?_
      refine zd_aload_n E (pc := 3) d_M_bestAction_3 rfl ?_
      refine zd_get E (pc := 4) d_M_bestAction_4 kf_M_51 22 rfl rfl ?_
      rw [h14]
      refine zd_nc_ge E (pc := 7) 54 d_M_bestAction_7 (by decide) ((by omega)) ((by omega)) (fun hq => ?_) (fun hq => ?_)
      · omega
      · refine zd_aload_n E (pc := 10) d_M_bestAction_10 rfl ?_
        refine zd_iload_n E (pc := 11) d_M_bestAction_11 rfl ?_
        refine zd_iload_n E (pc := 12) d_M_bestAction_12 rfl ?_
        refine zd_callV E (pc := 13) d_M_bestAction_13 kc_M_76 rfl ki_M_can ke_M_can 22 rfl rfl (c_M_can l D t ha12) (by decide) rfl (Nat.le_of_ble_eq_true rfl) (fun v1 ws1 hv1 => ?_)
        obtain ⟨rfl, rfl⟩ := hv1
        refine zd_bf_eq E (pc := 16) 48 d_M_bestAction_16 (by decide) (fun hcan => ?_) (fun hcan => ?_)
        · exact tail (by rw [ts_f hcan, Bool.false_and])
        · refine zd_aload_n E (pc := 19) d_M_bestAction_19 rfl ?_
          refine zd_get E (pc := 20) d_M_bestAction_20 kf_M_7 22 rfl rfl ?_
          refine zd_iload_n E (pc := 23) d_M_bestAction_23 rfl ?_
          refine zd_iald E (pc := 24) d_M_bestAction_24 23 rfl (t0 := 0) rfl (a) (rfl) (ha12) (by decide) ?_
          rw [c1]
          refine zd_aload_n E (pc := 25) d_M_bestAction_25 rfl ?_
          refine zd_get E (pc := 26) d_M_bestAction_26 kf_M_28 22 rfl rfl ?_
          refine zd_aload_n E (pc := 29) d_M_bestAction_29 rfl ?_
          refine zd_iload_n E (pc := 30) d_M_bestAction_30 rfl ?_
          refine zd_iload_n E (pc := 31) d_M_bestAction_31 rfl ?_
          refine zd_callV E (pc := 32) d_M_bestAction_32 kc_M_80 rfl ki_M_after ke_M_after 22 rfl rfl (c_M_after l D t ha12) (by decide) rfl (Nat.le_of_ble_eq_true rfl) (fun v1 ws1 hv1 => ?_)
          obtain ⟨rfl, rfl⟩ := hv1
          refine zd_iald E (pc := 35) d_M_bestAction_35 29 rfl (t0 := 0) rfl (tk_af ad dr a s) (rfl) ((by omega)) (by decide) ?_
          rw [hr _ hafs]
          refine zd_iadd E (pc := 36) d_M_bestAction_36 ?_
          rw [nI_add]
          refine zd_aload_n E (pc := 37) d_M_bestAction_37 rfl ?_
          refine zd_get E (pc := 38) d_M_bestAction_38 kf_M_28 22 rfl rfl ?_
          refine zd_iload_n E (pc := 41) d_M_bestAction_41 rfl ?_
          refine zd_iald E (pc := 42) d_M_bestAction_42 29 rfl (t0 := 0) rfl (s) (rfl) ((by omega)) (by decide) ?_
          rw [hr s hs]
          refine zd_nc_ne E (pc := 43) 48 d_M_bestAction_43 (by decide) ((by omega)) ((by omega)) (fun hne => ?_) (fun hne => ?_)
          · exact tail (by rw [decide_eq_false hne, Bool.and_false])
          · refine zd_iload_n E (pc := 46) d_M_bestAction_46 rfl ?_
            exact zd_iret E (pc := 47) d_M_bestAction_47 ⟨by
              have e : pl_nx na (tk_can ne) (tk_af ad dr) co W s = a := gw_find_eq (show a < na by omega) (by rw [hcan, decide_eq_true hne]; rfl) hno
              rw [e], rfl⟩
  refine zd_iconst E (pc := 0) (v := (nI 0)) d_M_bestAction_0 (by decide) ?_
  refine zd_istore_n E (pc := 1) d_M_bestAction_1 (by decide) ?_
  exact loop na 0 (by omega) (fun b hb => by omega)
/-- the reference's plan, as its cells hold it -/
def md_pl (v : Nat → Int32) (r : Nat → Nat → Int32) (nf na go : Nat) (co ne ad dr : Nat → Nat) (s : Nat) (ans : Int32) : Prop :=
  ∃ W : Nat → Nat, gw_dear (2 ^ nf) na (tk_can ne) (tk_af ad dr) co (tk_met go) 1048576 W ∧ ((1048576 ≤ W s ∧ ans = -1 ∧ v 16 = nI 0) ∨ (W s < 1048576 ∧ ans = nI (W s) ∧ ∃ m, m ≤ 1023 ∧ W (pl_s na (tk_can ne) (tk_af ad dr) co W s m) = 0 ∧ (∀ j, j < m → 0 < W (pl_s na (tk_can ne) (tk_af ad dr) co W s j)) ∧ v 16 = nI m ∧ ∀ j, j < m → r 27 j = nI (pl_nx na (tk_can ne) (tk_af ad dr) co W (pl_s na (tk_can ne) (tk_af ad dr) co W s j))))
set_option maxRecDepth 100000 in
set_option maxHeartbeats 4000000 in
theorem c_M_plan (l : Launch) (D : va_G) {s : Nat} (t : tk_M v r nf na fi go co ne ad dr) (hs : v 15 = nI s) (hs2 : s < 2 ^ nf) : zd_Ct l D classes (wd_ty k) gd_T y_M_plan b_M_plan 3 (some .int) (zd_rm 2) [.ref (q 22)] (wd k q v r ex)
    (fun v1 w1 => ∃ (v2 : Nat → Int32) (r2 : Nat → Nat → Int32) (ans : Int32), (∀ i, i ≠ 10 → i ≠ 16 → v2 i = v i) ∧ v2 10 = nI 0 ∧ (∀ i, i ≠ 27 → i ≠ 29 → r2 i = r i) ∧ md_pl v2 r2 nf na go co ne ad dr s ans ∧ v1 = some (.int ans) ∧ w1 = wd k q v2 r2 ex) := by
  refine zd_met gd_all (by decide) rfl (Nat.le_of_ble_eq_true rfl) (fun Z E => ?_)
  show Z (wd k q v r ex) [some (.ref (q 22)), none, none] 0 []
  have hna := t.hna.2
  have hN := t.n31
  have haf : ∀ s a, s < 2 ^ nf → a < na → tk_can ne a s = true → tk_af ad dr a s < 2 ^ nf := fun s a hs ha _ => tk_af_lt hs (t.2.2.2.1 a (by omega)).2.2.1
  have hco1 := t.2.2.2.2
  have t0 : tk_M (upd v 10 (nI 0)) r nf na fi go co ne ad dr := tk_mfr t rfl rfl rfl rfl rfl rfl rfl rfl
  refine zd_aload_n E (pc := 0) d_M_plan_0 rfl ?_
  refine zd_iconst E (pc := 1) (v := (nI 0)) d_M_plan_1 (by decide) ?_
  refine zd_put E (pc := 2) d_M_plan_2 kp_M_44 22 rfl (Nat.le_of_ble_eq_true rfl) (ws1 := wd k q (upd v 10 (nI 0)) r ex) rfl ?_
  refine zd_aload_n E (pc := 5) d_M_plan_5 rfl ?_
  refine zd_callV E (pc := 6) d_M_plan_6 kc_M_88 rfl ki_M_findCosts ke_M_findCosts 22 rfl rfl (c_M_findCosts l D (v := upd v 10 (nI 0)) t0) (by decide) rfl (Nat.le_of_ble_eq_true rfl) (fun v1 ws1 hv1 => ?_)
  obtain ⟨r1, W, hf, hr, hW, rfl, rfl⟩ := hv1
  refine zd_aload_n E (pc := 9) d_M_plan_9 rfl ?_
  refine zd_iconst E (pc := 10) (v := (nI 0)) d_M_plan_10 (by decide) ?_
  refine zd_put E (pc := 11) d_M_plan_11 kp_M_91 22 rfl (Nat.le_of_ble_eq_true rfl) (ws1 := wd k q (upd (upd v 10 (nI 0)) 16 (nI 0)) r1 ex) rfl ?_
  refine zd_aload_n E (pc := 14) d_M_plan_14 rfl ?_
  refine zd_get E (pc := 15) d_M_plan_15 kf_M_28 22 rfl rfl ?_
  refine zd_aload_n E (pc := 18) d_M_plan_18 rfl ?_
  refine zd_get E (pc := 19) d_M_plan_19 kf_M_60 22 rfl rfl ?_
  show Z (wd k q (upd (upd v 10 (nI 0)) 16 (nI 0)) r1 ex) _ 22 [.int (v 15), .ref (q 29)]
  rw [hs]
  refine zd_iald E (pc := 22) d_M_plan_22 29 rfl (t0 := 0) rfl (s) (rfl) ((by omega)) (by decide) ?_
  rw [hr s hs2]
  have hWs := hW.1 s hs2
  refine zd_ldc E (pc := 23) (v := (nI 1048576)) d_M_plan_23 kk_M_87 ?_
  refine zd_nc_lt E (pc := 25) 30 d_M_plan_25 (by decide) ((by omega)) ((by omega)) (fun hq => ?_) (fun hq => ?_)
  · -- the way
    have good : ∀ j, (∀ i, i < j → 0 < W (pl_s na (tk_can ne) (tk_af ad dr) co W s i)) → pl_s na (tk_can ne) (tk_af ad dr) co W s j < 2 ^ nf ∧ W (pl_s na (tk_can ne) (tk_af ad dr) co W s j) < 1048576 := by
      intro j
      induction j with
      | zero => intro _; exact ⟨hs2, hq⟩
      | succ j ih =>
        intro hp
        obtain ⟨g1, g2⟩ := ih fun i hi => hp i (by omega)
        obtain ⟨n1, n2, n3⟩ := pl_next haf hW g1 (hp j (by omega)) g2
        have e : pl_s na (tk_can ne) (tk_af ad dr) co W s (j + 1) = tk_af ad dr (pl_nx na (tk_can ne) (tk_af ad dr) co W (pl_s na (tk_can ne) (tk_af ad dr) co W s j)) (pl_s na (tk_can ne) (tk_af ad dr) co W s j) := rfl
        rw [e]
        exact ⟨haf _ _ g1 n1 n2, by omega⟩
    obtain ⟨M, hM, hM0, hMp⟩ := pl_len (na := na) (can := tk_can ne) (af := tk_af ad dr) (co := co) (dear := W) (s0 := s) (fun j hp => by
      obtain ⟨g1, g2⟩ := good j hp
      refine ⟨by omega, fun h0 => ?_⟩
      obtain ⟨n1, n2, n3⟩ := pl_next haf hW g1 h0 g2
      have e : pl_s na (tk_can ne) (tk_af ad dr) co W s (j + 1) = tk_af ad dr (pl_nx na (tk_can ne) (tk_af ad dr) co W (pl_s na (tk_can ne) (tk_af ad dr) co W s j)) (pl_s na (tk_can ne) (tk_af ad dr) co W s j) := rfl
      rw [e]
      have := hco1 _ n1
      omega)
    have loop : ∀ (c j : Nat) (v1 : Nat → Int32) (r2 : Nat → Nat → Int32) (L2 : Option Value), j + c = M → (∀ i, i ≠ 10 → i ≠ 16 → v1 i = v i) → v1 10 = nI 0 → v1 16 = nI j → (∀ i, i ≠ 27 → i ≠ 29 → r2 i = r i) → (∀ s, s < 2 ^ nf → r2 29 s = nI (W s)) → (∀ i, i < j → r2 27 i = nI (pl_nx na (tk_can ne) (tk_af ad dr) co W (pl_s na (tk_can ne) (tk_af ad dr) co W s i))) → Z (wd k q v1 r2 ex) [some (.ref (q 22)), some (.int (nI (pl_s na (tk_can ne) (tk_af ad dr) co W s j))), L2] 35 [] := by
      intro c
      induction c with
      | zero =>
        intro j v1 r2 L2 hj hfv h10 h16 hfr h29 h27
        have e : j = M := by omega
        subst e
        obtain ⟨g1, g2⟩ := good j hMp
        refine zd_aload_n E (pc := 35) d_M_plan_35 rfl ?_
        refine zd_get E (pc := 36) d_M_plan_36 kf_M_28 22 rfl rfl ?_
        refine zd_iload_n E (pc := 39) d_M_plan_39 rfl ?_
        refine zd_iald E (pc := 40) d_M_plan_40 29 rfl (t0 := 0) rfl (pl_s na (tk_can ne) (tk_af ad dr) co W s j) (rfl) ((by omega)) (by decide) ?_
        rw [h29 _ g1, hM0]
        refine zd_if_le E (pc := 41) 80 d_M_plan_41 (by decide) (fun hz => ?_) (fun hz => ?_)
        · refine zd_aload_n E (pc := 80) d_M_plan_80 rfl ?_
          refine zd_get E (pc := 81) d_M_plan_81 kf_M_28 22 rfl rfl ?_
          refine zd_aload_n E (pc := 84) d_M_plan_84 rfl ?_
          refine zd_get E (pc := 85) d_M_plan_85 kf_M_60 22 rfl rfl ?_
          rw [hfv 15 (by decide) (by decide), hs]
          refine zd_iald E (pc := 88) d_M_plan_88 29 rfl (t0 := 0) rfl (s) (rfl) ((by omega)) (by decide) ?_
          rw [h29 s hs2]
          exact zd_iret E (pc := 89) d_M_plan_89 ⟨v1, r2, nI (W s), hfv, h10, hfr, ⟨W, hW, Or.inr ⟨hq, rfl, j, hM, hM0, hMp, h16, h27⟩⟩, rfl, rfl⟩
        · exact absurd (show nI 0 ≤ 0 by decide) hz
      | succ c ih =>
        intro j v1 r2 L2 hj hfv h10 h16 hfr h29 h27
        have hp : ∀ i, i < j → 0 < W (pl_s na (tk_can ne) (tk_af ad dr) co W s i) := fun i hi => hMp i (by omega)
        obtain ⟨g1, g2⟩ := good j hp
        obtain ⟨n1, n2, n3⟩ := pl_next haf hW g1 (hMp j (by omega)) g2
        have t1 : tk_M v1 r2 nf na fi go co ne ad dr := tk_mfr t (hfv 11 (by decide) (by decide)) (hfv 12 (by decide) (by decide)) (hfv 13 (by decide) (by decide)) (hfv 14 (by decide) (by decide)) (hfr 23 (by decide) (by decide)) (hfr 24 (by decide) (by decide)) (hfr 25 (by decide) (by decide)) (hfr 26 (by decide) (by decide))
        refine zd_aload_n E (pc := 35) d_M_plan_35 rfl ?_
        refine zd_get E (pc := 36) d_M_plan_36 kf_M_28 22 rfl rfl ?_
        refine zd_iload_n E (pc := 39) d_M_plan_39 rfl ?_
        refine zd_iald E (pc := 40) d_M_plan_40 29 rfl (t0 := 0) rfl (pl_s na (tk_can ne) (tk_af ad dr) co W s j) (rfl) ((by omega)) (by decide) ?_
        rw [h29 _ g1]
        refine zd_if_le E (pc := 41) 80 d_M_plan_41 (by decide) (fun hz => ?_) (fun hz => ?_)
        · exact absurd hz (nI_nle (hMp j (by omega)) (by omega))
        · refine zd_aload_n E (pc := 44) d_M_plan_44 rfl ?_
          refine zd_iload_n E (pc := 45) d_M_plan_45 rfl ?_
          refine zd_callV E (pc := 46) d_M_plan_46 kc_M_94 rfl ki_M_bestAction ke_M_bestAction 22 rfl rfl (c_M_bestAction l D t1 g1 h29 hW.1 n1) (by decide) rfl (Nat.le_of_ble_eq_true rfl) (fun v1 ws1 hv1 => ?_)
          obtain ⟨rfl, rfl⟩ := hv1
          refine zd_istore_n E (pc := 49) d_M_plan_49 (by decide) ?_
          refine zd_aload_n E (pc := 50) d_M_plan_50 rfl ?_
          refine zd_get E (pc := 51) d_M_plan_51 kf_M_22 22 rfl rfl ?_
          refine zd_aload_n E (pc := 54) d_M_plan_54 rfl ?_
          refine zd_get E (pc := 55) d_M_plan_55 kf_M_91 22 rfl rfl ?_
          rw [h16]
          refine zd_iload_n E (pc := 58) d_M_plan_58 rfl ?_
          refine zd_iast E (pc := 59) d_M_plan_59 27 rfl (t0 := 0) rfl (j) (rfl) ((by omega)) (by decide) (ws1 := wd k q v1 (va_up r2 27 (upd (r2 27) j (nI (pl_nx na (tk_can ne) (tk_af ad dr) co W (pl_s na (tk_can ne) (tk_af ad dr) co W s j))))) ex) rfl ?_
          refine zd_aload_n E (pc := 60) d_M_plan_60 rfl ?_
          refine zd_dup E (pc := 61) d_M_plan_61 rfl ?_
          refine zd_get E (pc := 62) d_M_plan_62 kf_M_91 22 rfl rfl ?_
          rw [h16]
          refine zd_iconst E (pc := 65) (v := (nI 1)) d_M_plan_65 (by decide) ?_
          refine zd_iadd E (pc := 66) d_M_plan_66 ?_
          rw [nI_add]
          refine zd_put E (pc := 67) d_M_plan_67 kp_M_91 22 rfl (Nat.le_of_ble_eq_true rfl) (ws1 := wd k q (upd v1 16 (nI (j + 1))) (va_up r2 27 (upd (r2 27) j (nI (pl_nx na (tk_can ne) (tk_af ad dr) co W (pl_s na (tk_can ne) (tk_af ad dr) co W s j))))) ex) rfl ?_
          refine zd_aload_n E (pc := 70) d_M_plan_70 rfl ?_
          refine zd_iload_n E (pc := 71) d_M_plan_71 rfl ?_
          refine zd_iload_n E (pc := 72) d_M_plan_72 rfl ?_
          have t2 : tk_M (upd v1 16 (nI (j + 1))) (va_up r2 27 (upd (r2 27) j (nI (pl_nx na (tk_can ne) (tk_af ad dr) co W (pl_s na (tk_can ne) (tk_af ad dr) co W s j))))) nf na fi go co ne ad dr := tk_mfr t1 rfl rfl rfl rfl rfl rfl rfl rfl
          refine zd_callV E (pc := 73) d_M_plan_73 kc_M_80 rfl ki_M_after ke_M_after 22 rfl rfl (c_M_after l D t2 (show pl_nx na (tk_can ne) (tk_af ad dr) co W (pl_s na (tk_can ne) (tk_af ad dr) co W s j) < 12 by omega)) (by decide) rfl (Nat.le_of_ble_eq_true rfl) (fun v1 ws1 hv1 => ?_)
          obtain ⟨rfl, rfl⟩ := hv1
          refine zd_istore_n E (pc := 76) d_M_plan_76 (by decide) ?_
          refine zd_goto E (pc := 77) 35 d_M_plan_77 (by decide) ?_
          refine ih (j + 1) _ _ _ (by omega) (fun i a b => by rw [pk_un b]; exact hfv i a b) (by rw [pk_un (by decide)]; exact h10) pk_us (fun i a b => by rw [va_up_ne _ _ a]; exact hfr i a b) (fun x hx => by rw [va_up_ne _ _ (by decide)]; exact h29 x hx) (fun i hi => ?_)
          rw [va_up_self]
          by_cases e : i = j
          · subst e; rw [pk_us]
          · rw [pk_un e]; exact h27 i (by omega)
    refine zd_aload_n E (pc := 30) d_M_plan_30 rfl ?_
    refine zd_get E (pc := 31) d_M_plan_31 kf_M_60 22 rfl rfl ?_
    show Z (wd k q (upd (upd v 10 (nI 0)) 16 (nI 0)) r1 ex) _ 34 [.int (v 15)]
    rw [hs]
    refine zd_istore_n E (pc := 34) d_M_plan_34 (by decide) ?_
    exact loop M 0 (upd (upd v 10 (nI 0)) 16 (nI 0)) r1 none (by omega) (fun i a b => by rw [pk_un b, pk_un a]) rfl pk_us (fun i a b => hf i b) hr (fun i hi => by omega)
  · refine zd_iconst E (pc := 28) (v := (-1)) d_M_plan_28 (by decide) ?_
    exact zd_iret E (pc := 29) d_M_plan_29 ⟨upd (upd v 10 (nI 0)) 16 (nI 0), r1, -1, fun i a b => by rw [pk_un b, pk_un a], rfl, fun i a b => hf i b, ⟨W, hW, Or.inl ⟨hq, rfl, pk_us⟩⟩, rfl, rfl⟩
end M4
end
