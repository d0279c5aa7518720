/-! new int[3][12]. -/
/-- the class of int[][], and that its rows are of the class of int[] -/
def mn_Y (U : State) : Prop := ∃ (cA comp : ClassId) (kA : Class), U.vm.findClass "[[I" = some cA ∧ U.vm.classes[cA]? = some kA ∧ kA.kind = .array comp (.array .int) ∧ U.vm.findClass "[I" = some comp
theorem mn_Yk : zx_k mn_Y := by
  intro s U hk h
  obtain ⟨cA, comp, kA, h1, h2, h3, h4⟩ := h
  obtain ⟨kA', h5, h6⟩ := hk.1.alike.2.2 _ _ h2
  exact ⟨cA, comp, kA', by rw [hk.1.alike.findClass]; exact h1, h5, by rw [h6]; exact h3, by rw [hk.1.alike.findClass]; exact h4⟩
def mn_i (c : ClassId) : Cell := { cls := c, slots := Array.replicate 12 (.int 0), vm := .none }
def mn_o (c : ClassId) (a : Nat) : Nat → Cell
  | 0 => { cls := c, slots := Array.replicate 3 .null, vm := .none }
  | i + 1 => (mn_o c a i).setSlot i (.ref (a + 1 + i))
def mn_f (s : State) (c comp : ClassId) : Nat → State
  | 0 => s.pushCell (mn_o c s.heap.size 0)
  | i + 1 => ((mn_f s c comp i).pushCell (mn_i comp)).setCell s.heap.size (mn_o c s.heap.size (i + 1))
theorem mn_o_is (c : ClassId) (a : Nat) : ∀ i, (mn_o c a i).cls = c ∧ (mn_o c a i).vm = .none ∧ (mn_o c a i).slots.size = 3
  | 0 => ⟨rfl, rfl, by simp [mn_o]⟩
  | i + 1 => by
    obtain ⟨h1, h2, h3⟩ := mn_o_is c a i
    exact ⟨by simp [mn_o, Cell.setSlot, h1], by simp [mn_o, Cell.setSlot, h2], by simp [mn_o, Cell.setSlot, h3]⟩
theorem mn_f_is (s : State) (c comp : ClassId) : ∀ i, (mn_f s c comp i).heap.size = s.heap.size + 1 + i ∧ (mn_f s c comp i).heap[s.heap.size]? = some (mn_o c s.heap.size i) ∧ (mn_f s c comp i).vm = s.vm ∧ (mn_f s c comp i).slotsUsed = s.slotsUsed + 3 + i * 12
  | 0 => ⟨by simp [mn_f], by simp [mn_f], rfl, by simp [mn_f, mn_o]⟩
  | i + 1 => by
    obtain ⟨h1, h2, h3, h4⟩ := mn_f_is s c comp i
    have hlt : s.heap.size < (mn_f s c comp i).heap.size := by omega
    have h5 : ((mn_f s c comp i).pushCell (mn_i comp)).heap[s.heap.size]? = some (mn_o c s.heap.size i) := by rw [State.heap_pushCell_of_lt (h := hlt)]; exact h2
    refine ⟨?_, State.heap_setCell_self h5, by simp [mn_f, h3], ?_⟩
    · simp [mn_f, State.setCell, h1]; omega
    · simp [mn_f, h4, mn_i]; omega
theorem mn_f_top (s : State) (f : JFrame) (c comp : ClassId) : ∀ i, mn_f (s.setTop f) c comp i = (mn_f s c comp i).setTop f
  | 0 => rfl
  | i + 1 => by simp only [mn_f, mn_f_top s f c comp i, State.heap_setTop, State.pushCell_setTop, State.setCell_setTop]
theorem mn_f_old (s : State) (c comp : ClassId) {a : Addr} (ha : a < s.heap.size) : ∀ i, (mn_f s c comp i).heap[a]? = s.heap[a]?
  | 0 => State.heap_pushCell_of_lt _ _ ha
  | i + 1 => by
    have h1 := (mn_f_is s c comp i).1
    have hlt : a < (mn_f s c comp i).heap.size := Nat.lt_of_lt_of_le ha (by rw [h1]; omega)
    show (((mn_f s c comp i).pushCell (mn_i comp)).setCell s.heap.size _).heap[a]? = _
    rw [State.heap_setCell_other (Nat.ne_of_gt ha), State.heap_pushCell_of_lt (h := hlt)]
    exact mn_f_old s c comp ha i
theorem mn_f_row (s : State) (c comp : ClassId) : ∀ i j, j < i → (mn_f s c comp i).heap[s.heap.size + 1 + j]? = some (mn_i comp)
  | 0, _, h => absurd h (Nat.not_lt_zero _)
  | i + 1, j, h => by
    have h1 := (mn_f_is s c comp i).1
    show (((mn_f s c comp i).pushCell (mn_i comp)).setCell s.heap.size _).heap[s.heap.size + 1 + j]? = _
    rw [State.heap_setCell_other (show s.heap.size ≠ s.heap.size + 1 + j by omega)]
    by_cases hj : j < i
    · have hlt : s.heap.size + 1 + j < (mn_f s c comp i).heap.size := by rw [h1]; omega
      rw [State.heap_pushCell_of_lt (h := hlt)]
      exact mn_f_row s c comp i j hj
    · have e : j = i := by omega
      subst e
      rw [← h1]
      exact State.heap_pushCell_size _ _
section MN
variable {E : CtlPost} {e : Env} {d : Bool} {acts : List Action} {s : State}
theorem mn_new {c comp : ClassId} {k : Class} {type : FieldType} {len : Nat} {init : Value} (hk : s.vm.classes[c]? = some k) (hkind : k.kind = .array comp type) (hlimit : ¬ len > e.platform.arrayLengthLimit) (hheap : ¬ len * componentBytes type > e.platform.maxHeapBytes) (hfit : fits type init = true) (hdef : init.isDefault = true) {Q : Addr → Pre}
    (h1 : s.heap.size < e.platform.maxCells) (h2 : s.slotsUsed + len ≤ e.platform.maxSlots) (hq : Q s.heap.size d acts (s.pushCell { cls := c, slots := Array.replicate len init, vm := .none })) : wp (Jvm.newArray c len init) Q E e d acts s := by
  have hfits : ∀ i v, (Array.replicate len init)[i]? = some v → s.fitsSlot c .none i v = true := by
    intro i v hv
    simp only [Array.getElem?_replicate] at hv
    split at hv
    · cases hv; simp [State.fitsSlot, State.slotType?, hk, hkind, hfit]
    · cases hv
  have hda : allocActs (Array.replicate len init) s.heap.size acts = acts := by
    have hall : ((Array.replicate len init).all (·.isDefault)) = true := by
      rw [Array.all_replicate]; split <;> simp [hdef]
    unfold allocActs; rw [if_pos hall]
  simp only [Jvm.newArray, Jvm.arrayFits, wp_bind', W.ask, W.ite, hlimit, if_false, wp_pure', W.theClass, hk, hkind, hheap, W.alloc, W.stop, Option.some.injEq, exists_eq_left', Array.size_replicate, hda]
  rw [if_neg (by omega)]
  exact ⟨h1, h2, hfits, hq⟩
theorem mn_make {c comp cc : ClassId} {k kc : Class} (hk : s.vm.classes[c]? = some k) (hkind : k.kind = .array comp (.array .int)) (hkc : s.vm.classes[comp]? = some kc) (hkindc : kc.kind = .array cc .int) (hlim : 16 ≤ e.platform.arrayLengthLimit) (hhp : 100 ≤ e.platform.maxHeapBytes)
    (hc : s.heap.size + 4 ≤ e.platform.maxCells) (hs : s.slotsUsed + 39 ≤ e.platform.maxSlots) {Q : Addr → Pre} (hq : ∀ d' acts', Q s.heap.size d' acts' (mn_f s c comp 3)) : wp (multianewarray.make c [3, 12]) Q E e d acts s := by
  have hfind : (([12] : List Int32).find? (· < 0)) = none := by decide
  have e3 : (3 : Int32).toNatClampNeg = 3 := by decide
  have e12 : (12 : Int32).toNatClampNeg = 12 := by decide
  rw [multianewarray.make]
  simp only [wp_bind', W.ite, show ¬ (3 : Int32) < 0 by decide, if_false, wp_pure', W.theClass, hk, hkind, Option.some.injEq, exists_eq_left', e3]
  refine mn_new hk hkind (by omega) (by show ¬ 3 * 4 > _; omega) rfl rfl (by omega) (by omega) ?_
  simp only [hfind]
  rw [ite_self, wp_bind', Std.Legacy.Range.forIn_eq_forIn_range']
  have hsz : ([:3] : Std.Legacy.Range).size = 3 := by simp [Std.Legacy.Range.size]
  rw [hsz]
  show wp (forIn (List.range' 0 3 1) PUnit.unit _) _ E e d acts _
  refine wp_forIn_inv (fun rest s' => ∃ i, i ≤ 3 ∧ rest = List.range' i (3 - i) ∧ s' = mn_f s c comp i) _ _ ⟨0, Nat.zero_le _, rfl, rfl⟩ ?_ ?_
  · rintro x rest s' d' acts' Q' ⟨i, hi, hl, rfl⟩ hnext
    have hlt : i < 3 := by
      rcases Nat.lt_or_ge i 3 with h | h
      · exact h
      · rw [show 3 - i = 0 from by omega] at hl; simp at hl
    obtain ⟨rfl, hrest⟩ : x = i ∧ rest = List.range' (i + 1) (3 - (i + 1)) := by
      rw [show 3 - i = (3 - (i + 1)) + 1 from by omega, List.range'_succ] at hl
      exact ⟨(List.cons.inj hl).1, (List.cons.inj hl).2⟩
    obtain ⟨f1, f2, f3, f4⟩ := mn_f_is s c comp x
    obtain ⟨o1, o2, o3⟩ := mn_o_is c s.heap.size x
    simp only [wp_bind']
    rw [multianewarray.make]
    simp only [wp_bind', W.ite, show ¬ (12 : Int32) < 0 by decide, if_false, wp_pure', W.theClass, f3, hkc, hkindc, Option.some.injEq, exists_eq_left', e12]
    refine mn_new (by rw [f3]; exact hkc) hkindc (by omega) (by show ¬ 12 * 4 > _; omega) rfl rfl (by rw [f1]; omega) (by rw [f4]; omega) ?_
    have hlt0 : s.heap.size < (mn_f s c comp x).heap.size := by rw [f1]; omega
    simp only [wp_bind', W.writeLoc, wp_pure']
    refine ⟨mn_o c s.heap.size x, by rw [State.heap_pushCell_of_lt (h := hlt0)]; exact f2, by rw [o2]; simp, by rw [o3]; exact hlt, ?_, hnext _ _ _ ⟨x + 1, hlt, hrest, ?_⟩⟩
    · rw [o1, o2]
      simp [State.fitsSlot, State.slotType?, f3, hk, hkind, fits]
    · rw [f1]; rfl
  · rintro s' d' acts' ⟨i, hi, hl, rfl⟩
    have hi3 : i = 3 := by
      rcases Nat.lt_or_ge i 3 with h | h
      · rw [show 3 - i = (3 - (i + 1)) + 1 from by omega, List.range'_succ] at hl; cases hl
      · omega
    subst hi3
    simp only [wp_pure']
    exact hq _ _
end MN
section MS
variable {p : Program} {l : Launch} {e : Env} {R : Room} {s : State} {m : MethodId} {args : Array Value} {below : List Frame} {meth : Method} {c : Code} {T : State} {locs : List Loc} {cells slots : Nat}
theorem mn_stand (X : Stand p l e R s m args below meth c T locs cells slots) (cA comp : ClassId) : ∀ i, Stand p l e R s m args below meth c (mn_f T cA comp i) (locs ++ (List.range i).map fun j => ⟨T.heap.size, j⟩) (cells + 1 + i) (slots + 3 + i * 12)
  | 0 => by
    have h := X.pushed (mn_o cA T.heap.size 0)
    rw [(mn_o_is cA T.heap.size 0).2.2] at h
    simpa [mn_f] using h
  | i + 1 => by
    have Xi := mn_stand X cA comp i
    obtain ⟨f1, f2, f3, f4⟩ := mn_f_is T cA comp i
    have hlt0 : T.heap.size < (mn_f T cA comp i).heap.size := by rw [f1]; omega
    have hcell : ((mn_f T cA comp i).pushCell (mn_i comp)).heap[T.heap.size]? = some (mn_o cA T.heap.size i) := by rw [State.heap_pushCell_of_lt (h := hlt0)]; exact f2
    have h := (Xi.pushed (mn_i comp)).stored hcell i (.ref (T.heap.size + 1 + i))
    have e1 : (mn_i comp).slots.size = 12 := by simp [mn_i]
    rw [e1] at h
    have e2 : (locs ++ (List.range (i + 1)).map fun j => (⟨T.heap.size, j⟩ : Loc)) = (locs ++ (List.range i).map fun j => (⟨T.heap.size, j⟩ : Loc)) ++ [⟨T.heap.size, i⟩] := by simp [List.range_succ, List.append_assoc]
    have e3 : slots + 3 + (i + 1) * 12 = slots + 3 + i * 12 + 12 := by omega
    rw [e2, e3]
    exact h
theorem mn_step (X : Stand p l e R s m args below meth c T locs cells slots) (hexec : p.tables.exec = Jvm.exec) {own : String} {index : Nat} (hown : s.vm.findClass own = some m.cls) (hclink : (Cond.classLink own index "[[I").before args s = true) (hY : mn_Y s) (harr : (Cond.arrayClass .int).before args s = true)
    {g : JFrame} (hg : g.method = m) (hdg : decode c.code g.pc = .ok (.multianewarray index 2, 4)) {rest : List Value} (hstack : g.stack = .int 12 :: .int 3 :: rest) (hcells : cells + 4 ≤ R.cells) (hslots : slots + 39 ≤ R.slots) :
    ∃ (vm₁ : Vm) (cA comp : ClassId), s.vm.findClass "[[I" = some cA ∧ s.vm.findClass "[I" = some comp ∧ Stand p l e R s m args below meth c (mn_f (T.setVm vm₁) cA comp 3) (locs ++ (List.range 3).map fun j => ⟨T.heap.size, j⟩) (cells + 4) (slots + 39) ∧
      ∀ target, Steps p.tables e below ((mn_f (T.setVm vm₁) cA comp 3).setTop { g with pc := g.pc + 4, stack := .ref T.heap.size :: rest }) target → Steps p.tables e below (T.setTop g) target := by
  subst hg
  have hpl : e.platform.magicAccessors = ({} : Platform).magicAccessors := by rw [X.admits.platform]
  obtain ⟨cA, comp, kA, hnameA, hkA, hkindA, hcomp⟩ := hY
  obtain ⟨comp', kC, cc, hcomp', hkC, hkindC⟩ := Cond.arrayClass_spec harr
  have ecomp : comp' = comp := Option.some.inj (hcomp'.symm.trans hcomp)
  subst ecomp
  obtain ⟨c0, hfc0, hcl⟩ := Cond.classLink_spec hown hclink e.platform hpl
  cases hnameA.symm.trans hfc0
  obtain ⟨hg₁, hwarm₁, hready₁⟩ := State.classEntry (e := e) X.warmed hcl
  generalize T.vm.noted g.method.cls index (.cls cA) = vm₁ at hg₁ hwarm₁ hready₁
  have hal : s.vm.Alike vm₁ := hwarm₁.alike
  obtain ⟨kA₁, hkA₁, heA⟩ := hal.2.2 _ _ hkA
  obtain ⟨kC₁, hkC₁, heC⟩ := hal.2.2 _ _ hkC
  have hkindA₁ : kA₁.kind = .array comp' (.array .int) := by rw [heA]; exact hkindA
  have hkindC₁ : kC₁.kind = .array cc .int := by rw [heC]; exact hkindC
  have X₁ := X.noted hwarm₁
  obtain ⟨hr1, hr2⟩ := X.roomAbove hcells hslots
  have XF := mn_stand X₁ cA comp' 3
  refine ⟨vm₁, cA, comp', hnameA, hcomp, XF, fun target hrest => ?_⟩
  jvm_step X.here [hexec, hdg]
  simp only [multianewarray.sem, wp_bind', W.resolveClassAt_links (State.method?_setTop g X.here.top) hg₁]
  rw [W.popN, if_neg (by decide)]
  refine ⟨g, State.topJava?_setTop' (s := T.setVm vm₁) g X.here.top, [.int 3, .int 12], rest, rfl, hstack, ?_⟩
  simp only [List.mapM_cons, List.mapM_nil, wp_bind', wp_pure']
  refine mn_make (k := kA₁) (kc := kC₁) (comp := comp') (cc := cc) hkA₁ hkindA₁ hkC₁ hkindC₁ (by rw [Launch.admits_arrayLengthLimit X.admits]; decide) (by rw [Launch.admits_maxHeapBytes X.admits]; decide) (by show T.heap.size + 4 ≤ _; omega) (by show T.slotsUsed + 39 ≤ _; omega) (fun d' acts' => ?_)
  have eS : ((T.setTop g).setVm vm₁).setTop { g with stack := rest } = (T.setVm vm₁).setTop { g with stack := rest } := by
    show ((T.setVm vm₁).setTop g).setTop _ = _
    rw [State.setTop_setTop]
  rw [eS, mn_f_top]
  simp only [wp_bind', W.mark, W.pushRef, State.topJava?_setTop' _ XF.here.top, Option.some.injEq, exists_eq_left', State.setTop_setTop, State.heap_setTop]
  intro acts
  simp [jvm, XF.here.top]
  exact hrest
end MS
theorem zx_cons {D : va_G} {cl : List vw_C} {ws : va_W} {H : Heap} {x : Nat × va_E} (hx : va_at D cl x H) (h : va_P D cl ws H) : va_P D cl (x :: ws) H := by
  intro k q hk
  cases k with
  | zero =>
    simp only [List.getElem?_cons_zero, Option.some.injEq] at hk
    subst hk
    exact hx
  | succ k => exact h k q (by simpa using hk)
theorem zx_consD {A : Nat → Prop} {ws : va_W} {x : Nat × va_E} (hx : A x.1) (hn : ∀ (k : Nat) (q : Nat × va_E), ws[k]? = some q → q.1 ≠ x.1) (h : va_D A ws) : va_D A (x :: ws) := by
  refine ⟨fun i j p q hi hj hpq => ?_, fun k q hk => ?_⟩
  · cases i with
    | zero =>
      simp only [List.getElem?_cons_zero, Option.some.injEq] at hi
      subst hi
      cases j with
      | zero => rfl
      | succ j => exact absurd hpq.symm (hn j q (by simpa using hj))
    | succ i =>
      cases j with
      | zero =>
        simp only [List.getElem?_cons_zero, Option.some.injEq] at hj
        subst hj
        exact absurd hpq (hn i p (by simpa using hi))
      | succ j => rw [h.1 i j p q (by simpa using hi) (by simpa using hj) hpq]
  · cases k with
    | zero =>
      simp only [List.getElem?_cons_zero, Option.some.injEq] at hk
      subst hk
      exact hx
    | succ k => exact h.2 k q (by simpa using hk)
def mn_lk (x y z : Nat) : Nat → Option Nat
  | 0 => some x
  | 1 => some y
  | 2 => some z
  | _ => none
theorem mn_outer (c : ClassId) (a : Nat) : ∀ i, mn_o c a i = arrV c 3 (fun j => va_rf (if j < i then some (a + 1 + j) else none))
  | 0 => by
    show ({ cls := c, slots := Array.replicate 3 .null, vm := .none } : Cell) = _
    rw [arrV_new]
    refine congrArg (arrV c 3) (funext fun j => ?_)
    simp [va_rf]
  | i + 1 => by
    show (mn_o c a i).setSlot i (.ref (a + 1 + i)) = _
    rw [mn_outer c a i, arrV_store]
    refine congrArg (arrV c 3) (funext fun j => ?_)
    by_cases e : j = i
    · subst e
      simp [updV, va_rf]
    · by_cases h : j < i
      · simp [updV, e, h, Nat.lt_succ_of_lt h]
      · simp [updV, e, h, show ¬ j < i + 1 by omega]
theorem mn_outer3 (c : ClassId) (a : Nat) : mn_o c a 3 = vp_cell c (3, .inr (.inr (.inr (.inr (mn_lk (a + 1) (a + 2) (a + 3)))))) := by
  rw [mn_outer, vp_cell_q]
  refine congrArg (arrV c 3) (funext fun j => congrArg va_rf ?_)
  match j with
  | 0 => rfl
  | 1 => rfl
  | 2 => rfl
  | j + 3 => rw [if_neg (by omega)]; rfl
theorem mn_inner (c : ClassId) : mn_i c = vp_cell c (12, .inl (fun _ => 0)) := by
  rw [vp_cell_i]
  exact arrV_new ..
section MX
variable {Zf : Nat → Nat → va_W → List (Option Value) → Nat → List Value → Prop} {l : Launch} {D : va_G} {cl : List vw_C} {tys : List (ClassId × FieldType)} {cc : ByteArray} {nL : Nat} {own : String} {Ts : List Cond} {R : Room} {ret : Option FieldType} {post : Option Value → va_W → Prop} {mc ms : Nat} {ini : Bool} {hh : Option (List (Nat × Nat × Nat × Nat))} {Y : State → Prop}
variable {ws : va_W} {L : List (Option Value)} {pc : Nat} {st : List Value} {nc ns : Nat}
theorem zx_mna (X : zd_X Zf l D cl tys cc nL own Ts R ret post mc ms ini hh Y) {index : Nat} {k0 k2 : ClassId} (d : decode cc pc = .ok (.multianewarray index 2, 4)) (hcl : Cond.classLink own index "[[I" ∈ Ts) (harr : Cond.arrayClass .int ∈ Ts) (hYY : ∀ U, Y U → mn_Y U) (ht0 : tys[0]? = some (k0, .int)) (ht2 : tys[2]? = some (k2, .array .int)) (h1 : nc + 4 ≤ mc) (h2 : ns + 39 ≤ ms)
    (k : ∀ q q0 q1 q2, Zf (nc + 4) (ns + 39) ((q, .inl (k2, 3, .inr (.inr (.inr (.inr (mn_lk q0 q1 q2)))))) :: (q0, .inl (k0, 12, .inl (fun _ => 0))) :: (q1, .inl (k0, 12, .inl (fun _ => 0))) :: (q2, .inl (k0, 12, .inl (fun _ => 0))) :: ws) L (pc + 4) (.ref q :: st)) : Zf nc ns ws L pc (.int (nI 12) :: .int (nI 3) :: st) := by
  obtain ⟨p, e, s, m, args, below, meth, c, A, Q, ⟨hx, hb, hml, hown, hts, hK, hr, hlk⟩, hR, hQ, hA, -, -, -, hY, rfl⟩ := X
  intro H locs ls hP hD hS hl T hT S
  subst hT
  obtain ⟨vm₁, cA, comp, hfA, hfC, S2, step⟩ := mn_step S hx hown (hts _ hcl) (hYY s hY.2) (hts _ harr) (g := F0 m pc ls (.int (nI 12) :: .int (nI 3) :: st)) rfl (by rw [hb]; exact d) (rest := st) rfl (Nat.le_trans h1 hR.1) (Nat.le_trans h2 hR.2)
  have e2 : cA = k2 := Option.some.inj (hfA.symm.trans ((hK.2 2 _ ht2).2))
  have e0 : comp = k0 := Option.some.inj (hfC.symm.trans ((hK.2 0 _ ht0).2))
  subst e2
  subst e0
  have hsz : (T.setVm vm₁).heap.size = T.heap.size := rfl
  obtain ⟨f1, f2, -, -⟩ := mn_f_is (T.setVm vm₁) cA comp 3
  have hold : ∀ q, q < T.heap.size → (mn_f (T.setVm vm₁) cA comp 3).heap[q]? = T.heap[q]? := fun q hq => mn_f_old (T.setVm vm₁) cA comp hq 3
  have hlt : ∀ (k : Nat) (q : Nat × va_E), ws[k]? = some q → q.1 < T.heap.size := fun k q hk => (hP k q hk).lt
  have hAT : ∀ i, A (T.heap.size + i) := fun i => hA _ (Nat.le_trans hS.1 (Nat.le_add_right _ _))
  have hP0 : va_P D cl ws (mn_f (T.setVm vm₁) cA comp 3).heap := hP.kept (fun k q hk => hold q.1 (hlt k q hk))
  have hrow : ∀ j, j < 3 → va_at D cl (T.heap.size + 1 + j, .inl (comp, 12, .inl (fun _ => 0))) (mn_f (T.setVm vm₁) cA comp 3).heap := fun j hj => by
    show (mn_f (T.setVm vm₁) cA comp 3).heap[T.heap.size + 1 + j]? = some (vp_cell comp (12, .inl (fun _ => 0)))
    rw [← mn_inner]
    exact mn_f_row (T.setVm vm₁) cA comp 3 j hj
  have hout : va_at D cl (T.heap.size, .inl (cA, 3, .inr (.inr (.inr (.inr (mn_lk (T.heap.size + 1) (T.heap.size + 2) (T.heap.size + 3))))))) (mn_f (T.setVm vm₁) cA comp 3).heap := by
    show (mn_f (T.setVm vm₁) cA comp 3).heap[T.heap.size]? = some (vp_cell cA _)
    rw [← mn_outer3]
    exact f2
  have hP4 := zx_cons hout (zx_cons (hrow 0 (by decide)) (zx_cons (hrow 1 (by decide)) (zx_cons (hrow 2 (by decide)) hP0)))
  have hD1 : va_D A ((T.heap.size + 1 + 2, .inl (comp, 12, .inl (fun _ => (0 : Int32)))) :: ws) := zx_consD (hAT 3) (fun k q hk => by have := hlt k q hk; show q.1 ≠ T.heap.size + 1 + 2; omega) hD
  have hD2 : va_D A ((T.heap.size + 1 + 1, .inl (comp, 12, .inl (fun _ => (0 : Int32)))) :: (T.heap.size + 1 + 2, .inl (comp, 12, .inl (fun _ => (0 : Int32)))) :: ws) := zx_consD (hAT 2) (fun k q hk => by
    cases k with
    | zero => simp only [List.getElem?_cons_zero, Option.some.injEq] at hk; subst hk; show T.heap.size + 1 + 2 ≠ T.heap.size + 1 + 1; omega
    | succ k => have := hlt k q (by simpa using hk); show q.1 ≠ T.heap.size + 1 + 1; omega) hD1
  have hD3 : va_D A ((T.heap.size + 1 + 0, .inl (comp, 12, .inl (fun _ => (0 : Int32)))) :: (T.heap.size + 1 + 1, .inl (comp, 12, .inl (fun _ => (0 : Int32)))) :: (T.heap.size + 1 + 2, .inl (comp, 12, .inl (fun _ => (0 : Int32)))) :: ws) := zx_consD (hAT 1) (fun k q hk => by
    match k, hk with
    | 0, hk => simp only [List.getElem?_cons_zero, Option.some.injEq] at hk; subst hk; show T.heap.size + 1 + 1 ≠ T.heap.size + 1 + 0; omega
    | 1, hk => simp only [List.getElem?_cons_succ, List.getElem?_cons_zero, Option.some.injEq] at hk; subst hk; show T.heap.size + 1 + 2 ≠ T.heap.size + 1 + 0; omega
    | k + 2, hk => have := hlt k q (by simpa using hk); show q.1 ≠ T.heap.size + 1 + 0; omega) hD2
  have hD4 : va_D A ((T.heap.size, .inl (cA, 3, .inr (.inr (.inr (.inr (mn_lk (T.heap.size + 1) (T.heap.size + 2) (T.heap.size + 3))))))) :: (T.heap.size + 1 + 0, .inl (comp, 12, .inl (fun _ => (0 : Int32)))) :: (T.heap.size + 1 + 1, .inl (comp, 12, .inl (fun _ => (0 : Int32)))) :: (T.heap.size + 1 + 2, .inl (comp, 12, .inl (fun _ => (0 : Int32)))) :: ws) := zx_consD (hAT 0) (fun k q hk => by
    match k, hk with
    | 0, hk => simp only [List.getElem?_cons_zero, Option.some.injEq] at hk; subst hk; show T.heap.size + 1 + 0 ≠ T.heap.size; omega
    | 1, hk => simp only [List.getElem?_cons_succ, List.getElem?_cons_zero, Option.some.injEq] at hk; subst hk; show T.heap.size + 1 + 1 ≠ T.heap.size; omega
    | 2, hk => simp only [List.getElem?_cons_succ, List.getElem?_cons_zero, Option.some.injEq] at hk; subst hk; show T.heap.size + 1 + 2 ≠ T.heap.size; omega
    | k + 3, hk => have := hlt k q (by simpa using hk); show q.1 ≠ T.heap.size; omega) hD3
  have hS4 : va_S A s.heap (mn_f (T.setVm vm₁) cA comp 3).heap (locs ++ (List.range 3).map fun j => (⟨T.heap.size, j⟩ : Loc)) := ⟨Nat.le_trans hS.1 (by rw [f1]; show T.heap.size ≤ T.heap.size + 1 + 3; omega), fun q q1 q2 => by rw [hold q (Nat.lt_of_lt_of_le q1 hS.1)]; exact hS.2.1 q q1 q2, fun q hq => by
    rcases List.mem_append.mp hq with h | h
    · exact hS.2.2 q h
    · obtain ⟨j, -, rfl⟩ := List.mem_map.mp h
      exact hAT 0⟩
  obtain ⟨t, a1, b1⟩ := k T.heap.size (T.heap.size + 1) (T.heap.size + 2) (T.heap.size + 3) _ _ ls hP4 hD4 hS4 hl _ rfl S2
  exact ⟨t, step t a1, b1⟩
end MX
