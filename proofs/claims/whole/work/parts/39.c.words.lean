/-! The words of a throw, in the tables or beside them. -/
def th_nm : List String := ["java/lang/RuntimeException", "java/lang/Exception"]
def th_ck (q : Cond × Option Nat) : Bool := match q.2 with
  | some k => decide (tables_1[k]? = some q.1) && zd_ok q.1
  | none => decide (q.1 ∈ th_ws)
theorem th_zip {l : List Cond} {ix : List (Option Nat)} (hl : l.length = ix.length) (h : (l.zip ix).all th_ck = true) : ∀ w ∈ l, w ∈ gd_T ∨ w ∈ th_ws := by
  intro w hw
  obtain ⟨i, hi, rfl⟩ := List.mem_iff_getElem.mp hw
  have hz : (l[i], ix[i]'(by omega)) ∈ l.zip ix := by
    refine List.mem_iff_getElem.mpr ⟨i, by simp; omega, by simp⟩
  have h1 := List.all_eq_true.mp h _ hz
  unfold th_ck at h1
  cases hx : ix[i]'(by omega) with
  | none =>
    rw [hx] at h1
    exact Or.inr (by simpa using h1)
  | some k =>
    rw [hx] at h1
    simp only [Bool.and_eq_true, decide_eq_true_eq] at h1
    exact Or.inl (gd_in k h1.1 h1.2)
def th_ixS : List (Option Nat) := [some 9, some 377, some 386, some 390, some 393, some 395, some 378, some 379, some 23, some 24, some 380, some 385, some 391, some 411, some 367, some 412, some 369, some 413, some 371, some 381, none, some 383, none, some 373, some 407, some 408, some 410, some 373, some 398, some 399, some 400, some 401, none, some 401, some 402, some 403, some 404, none, some 404, some 405, some 406, some 407, none, some 397, some 356, none, some 364, some 365, some 366, some 368, some 370, some 372, none, none, some 376, some 375, some 374]
theorem th_atS : ∀ w ∈ Bundle.ownAtoms "CutPlanner" 64 th_S th_nm, w ∈ gd_T ∨ w ∈ th_ws := th_zip (ix := th_ixS) (by decide +kernel) (by decide +kernel)
theorem th_insS : Cond.instantiable th_S 6 ∈ gd_T := gd_in 356 (by decide +kernel) (by decide +kernel)
theorem th_iniS : Cond.initialized th_S ∈ gd_T := gd_in 12 (by decide +kernel) (by decide +kernel)
theorem th_clS : Cond.classLink "CutPlanner" 60 th_S ∈ gd_T := gd_in 355 (by decide +kernel) (by decide +kernel)
theorem th_clSL : Cond.classLink "CutPlannerLaw" 13 th_S ∈ gd_T := gd_in 350 (by decide +kernel) (by decide +kernel)
theorem th_fitS : Bundle.fit th_S = true := by decide +kernel
def th_ixA : List (Option Nat) := [some 9, some 377, some 386, some 390, some 393, some 395, some 378, some 379, some 23, some 24, some 380, some 385, some 391, some 411, some 367, some 412, some 369, some 413, some 371, some 381, none, some 383, none, some 373, some 407, some 408, some 410, some 373, some 450, some 451, some 452, some 401, none, some 401, some 402, some 403, some 404, none, some 404, some 405, some 406, some 407, none, some 449, some 440, none, some 442, some 388, some 443, some 444, some 445, some 446, none, none, some 376, some 375, some 447]
theorem th_atA : ∀ w ∈ Bundle.ownAtoms "CutPlanner" 78 th_A th_nm, w ∈ gd_T ∨ w ∈ th_ws := th_zip (ix := th_ixA) (by decide +kernel) (by decide +kernel)
theorem th_insA : Cond.instantiable th_A 6 ∈ gd_T := gd_in 440 (by decide +kernel) (by decide +kernel)
theorem th_iniA : Cond.initialized th_A ∈ gd_T := gd_in 13 (by decide +kernel) (by decide +kernel)
theorem th_clA : Cond.classLink "CutPlanner" 74 th_A ∈ gd_T := gd_in 439 (by decide +kernel) (by decide +kernel)
theorem th_clAL : Cond.classLink "CutPlannerLaw" 19 th_A ∈ gd_T := gd_in 434 (by decide +kernel) (by decide +kernel)
theorem th_fitA : Bundle.fit th_A = true := by decide +kernel
def th_ixI : List (Option Nat) := [some 9, some 377, some 386, some 390, some 393, some 395, some 378, some 379, some 23, some 24, some 380, some 385, some 391, some 411, some 367, some 412, some 369, some 413, some 371, some 381, none, some 383, none, some 373, some 407, some 408, some 410, some 373, some 483, some 484, some 485, some 401, none, some 401, some 402, some 403, some 404, none, some 404, some 405, some 406, some 407, none, some 482, some 473, none, some 475, some 389, some 476, some 477, some 478, some 479, none, none, some 376, some 375, some 480]
theorem th_atI : ∀ w ∈ Bundle.ownAtoms "CutPlanner" 194 th_I th_nm, w ∈ gd_T ∨ w ∈ th_ws := th_zip (ix := th_ixI) (by decide +kernel) (by decide +kernel)
theorem th_insI : Cond.instantiable th_I 6 ∈ gd_T := gd_in 473 (by decide +kernel) (by decide +kernel)
theorem th_iniI : Cond.initialized th_I ∈ gd_T := gd_in 14 (by decide +kernel) (by decide +kernel)
theorem th_clI : Cond.classLink "CutPlanner" 190 th_I ∈ gd_T := gd_in 472 (by decide +kernel) (by decide +kernel)
theorem th_clIL : Cond.classLink "CutPlannerLaw" 25 th_I ∈ gd_T := gd_in 463 (by decide +kernel) (by decide +kernel)
theorem th_fitI : Bundle.fit th_I = true := by decide +kernel
theorem th_fits : ∀ n ∈ th_nm, Bundle.fit n = true := by decide +kernel
