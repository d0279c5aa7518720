/-! new int[3][12]. -/
/-- the class of int[][], and that its rows are of the class of int[] -/
def mn_Y (U : State) : Prop := ∃ (cA comp : ClassId) (kA : Class), U.vm.findClass "[[I" = some cA ∧ U.vm.classes[cA]? = some kA ∧ kA.kind = .array comp (.array .int) ∧ U.vm.findClass "[I" = some comp
theorem mn_Yk : zx_k mn_Y := by
  intro s U hk h
  obtain ⟨cA, comp, kA, h1, h2, h3, h4⟩ := h
  obtain ⟨kA', h5, h6⟩ := hk.1.alike.2.2 _ _ h2
  exact ⟨cA, comp, kA', by rw [hk.1.alike.findClass]; exact h1, h5, by rw [h6]; exact h3, by rw [hk.1.alike.findClass]; exact h4⟩
def mn_lk (x y z : Nat) : Nat → Option Nat
  | 0 => some x
  | 1 => some y
  | 2 => some z
  | _ => none
/-- n rows of the grid stand behind the cells of H0: the state S, whose classes are vm₁, the grid's cell holding f -/
def mn_A (H0 : Heap) (vm₁ : Vm) (u : Nat) (cA comp : ClassId) (n : Nat) (f : Nat → Value) (S : State) : Prop :=
  S.vm = vm₁ ∧ S.slotsUsed = u + 3 + 12 * n ∧ S.heap.size = H0.size + 1 + n ∧ (∀ q, q < H0.size → S.heap[q]? = H0[q]?) ∧ S.heap[H0.size]? = some (arrV cA 3 f) ∧ ∀ j, j < n → S.heap[H0.size + 1 + j]? = some (arrV comp 12 (fun _ => .int 0))
/-- the next row -/
def mn_next (h : Nat) (cA comp : ClassId) (n : Nat) (f : Nat → Value) (S : State) : State := (S.pushCell (arrV comp 12 (fun _ => .int 0))).setCell h (arrV cA 3 (updV f n (.ref (h + 1 + n))))
section MM
variable {H0 : Heap} {vm₁ : Vm} {u n : Nat} {cA comp : ClassId} {f : Nat → Value} {S : State}
theorem mn_A.next (a : mn_A H0 vm₁ u cA comp n f S) : mn_A H0 vm₁ u cA comp (n + 1) (updV f n (.ref (H0.size + 1 + n))) (mn_next H0.size cA comp n f S) := by
  obtain ⟨a1, a2, a3, a4, a5, a6⟩ := a
  have look : ∀ q, (mn_next H0.size cA comp n f S).heap[q]? = if q = H0.size then some (arrV cA 3 (updV f n (.ref (H0.size + 1 + n)))) else if q = S.heap.size then some (arrV comp 12 (fun _ => .int 0)) else S.heap[q]? := by
    intro q
    show ((S.heap.push (arrV comp 12 (fun _ => .int 0))).setIfInBounds H0.size _)[q]? = _
    rw [Array.getElem?_setIfInBounds, Array.size_push, Array.getElem?_push]
    by_cases e1 : q = H0.size
    · subst e1
      rw [if_pos rfl, if_pos (by omega), if_pos rfl]
    · rw [if_neg (fun z => e1 z.symm), if_neg e1]
  refine ⟨a1, ?_, ?_, fun q hq => ?_, ?_, fun j hj => ?_⟩
  · show S.slotsUsed + (arrV comp 12 (fun _ => .int 0)).slots.size = _
    rw [arrV_size, a2]; omega
  · show ((S.heap.push _).setIfInBounds _ _).size = _
    rw [Array.size_setIfInBounds, Array.size_push, a3]; omega
  · rw [look, if_neg (by omega), if_neg (by omega)]
    exact a4 q hq
  · rw [look, if_pos rfl]
  · rw [look, if_neg (by omega)]
    by_cases e : j = n
    · rw [if_pos (by omega)]
    · rw [if_neg (by omega)]
      exact a6 j (by omega)
variable {E : CtlPost} {e : Env} {d : Bool} {acts : List Action} {G : JFrame} {kA kC : Class} {cc : ClassId}
/-- what is wanted of the classes and of the room -/
def mn_R (e : Env) (vm₁ : Vm) (H0 : Heap) (u : Nat) (cA comp : ClassId) : Prop := (∃ kA, vm₁.classes[cA]? = some kA ∧ kA.kind = .array comp (.array .int)) ∧ (∃ kC cc, vm₁.classes[comp]? = some kC ∧ kC.kind = .array cc .int) ∧ (12 ≤ e.platform.arrayLengthLimit ∧ 48 ≤ e.platform.maxHeapBytes) ∧ H0.size + 4 ≤ e.platform.maxCells ∧ u + 39 ≤ e.platform.maxSlots
theorem mn_row : ({ cls := comp, slots := Array.replicate (Int32.toNatClampNeg 12) (defaultValue .int) } : Cell) = arrV comp 12 (fun _ => .int 0) := arrV_new ..
theorem mn_grid : ({ cls := cA, slots := Array.replicate (Int32.toNatClampNeg 3) .null } : Cell) = arrV cA 3 (fun _ => .null) := arrV_new ..
theorem mn_A.cell (a : mn_A H0 vm₁ u cA comp n f S) {x : Cell} : (S.pushCell x).heap[H0.size]? = some (arrV cA 3 f) := by
  obtain ⟨-, -, a3, -, a5, -⟩ := a
  show (S.heap.push x)[H0.size]? = _
  rw [Array.getElem?_push, if_neg (by omega)]
  exact a5
theorem mn_turn (r : mn_R e vm₁ H0 u cA comp) (a : mn_A H0 vm₁ u cA comp n f S) (hn : n < 3) {B : Type} {g : PUnit → Sem B} {Q : B → Pre} (kk : ∀ d' acts', wp (g ⟨⟩) Q E e d' acts' ((mn_next H0.size cA comp n f S).setTop G)) : wp (multianewarray.make comp [12]) (fun x => wp (writeLoc H0.size n (.ref x) >>= g) Q E e) E e d acts (S.setTop G) := by
  obtain ⟨⟨kA, r1, r2⟩, ⟨kC, cc, r3, r4⟩, ⟨r5, r6⟩, r7, r8⟩ := r
  have hcell := a.cell (x := arrV comp 12 (fun _ => .int 0))
  obtain ⟨a1, a2, a3, a4, a5, a6⟩ := a
  rw [multianewarray.make]
  have hkc : (S.setTop G).vm.classes[comp]? = some kC := by show S.vm.classes[comp]? = _; rw [a1]; exact r3
  simp only [wp_bind', W.ite, show ¬ (12 : Int32) < 0 by decide, if_false, wp_pure', W.theClass, hkc, r4, Option.some.injEq, exists_eq_left']
  refine W.newArray_of hkc r4 (by show ¬ 12 > _; omega) (by show ¬ 12 * 4 > _; omega) (by show S.heap.size < _; omega) (by show S.slotsUsed + 12 ≤ _; omega) rfl (fun acts1 => ?_)
  rw [mn_row, show (S.setTop G).heap.size = H0.size + 1 + n from a3, wp_bind', W.writeLoc]
  refine ⟨arrV cA 3 f, hcell, (fun z => (by cases z)), (by rw [arrV_size]; exact hn), ?_, ?_⟩
  · have hka : S.vm.classes[cA]? = some kA := by rw [a1]; exact r1
    show State.fitsSlot _ cA .none n _ = true
    simp [State.fitsSlot, State.slotType?, hka, r2, fits]
  · rw [arrV_store]
    have h := kk true (writeActs { base := H0.size, slot := n } .plain (.ref (H0.size + 1 + n)) acts1)
    rw [mn_next, ← State.setCell_setTop, ← State.pushCell_setTop] at h
    exact h
variable {p : Program} {l : Launch} {R : Room} {s : State} {m : MethodId} {args : Array Value} {below : List Frame} {meth : Method} {c : Code} {J : List Loc} {cells slots : Nat}
theorem mn_stand (X : Stand p l e R s m args below meth c S J cells slots) (a : mn_A H0 vm₁ u cA comp n f S) : Stand p l e R s m args below meth c (mn_next H0.size cA comp n f S) (J ++ [⟨H0.size, n⟩]) (cells + 1) (slots + 12) := by
  have h := (X.pushed (arrV comp 12 (fun _ => .int 0))).stored a.cell n (.ref (H0.size + 1 + n))
  rw [arrV_size, arrV_store] at h
  exact h
theorem mn_first (h1 : S.vm = vm₁) (h2 : S.slotsUsed = u) : mn_A S.heap vm₁ u cA comp 0 (fun _ => .null) (S.pushCell (arrV cA 3 (fun _ => .null))) := by
  refine ⟨h1, ?_, ?_, fun q hq => ?_, ?_, fun j hj => absurd hj (Nat.not_lt_zero j)⟩
  · show S.slotsUsed + (arrV cA 3 (fun _ => .null)).slots.size = _
    rw [arrV_size, h2]
  · exact Array.size_push ..
  · show (S.heap.push _)[q]? = _
    rw [Array.getElem?_push, if_neg (by omega)]
  · show (S.heap.push _)[S.heap.size]? = _
    rw [Array.getElem?_push, if_pos rfl]
def mn_f1 (h : Nat) : Nat → Value := updV (fun _ => .null) 0 (.ref (h + 1 + 0))
def mn_f2 (h : Nat) : Nat → Value := updV (mn_f1 h) 1 (.ref (h + 1 + 1))
def mn_f3 (h : Nat) : Nat → Value := updV (mn_f2 h) 2 (.ref (h + 1 + 2))
def mn_s1 (cA comp : ClassId) (S : State) : State := mn_next S.heap.size cA comp 0 (fun _ => .null) (S.pushCell (arrV cA 3 (fun _ => .null)))
def mn_s2 (cA comp : ClassId) (S : State) : State := mn_next S.heap.size cA comp 1 (mn_f1 S.heap.size) (mn_s1 cA comp S)
def mn_s3 (cA comp : ClassId) (S : State) : State := mn_next S.heap.size cA comp 2 (mn_f2 S.heap.size) (mn_s2 cA comp S)
theorem mn_make (r : mn_R e S.vm S.heap S.slotsUsed cA comp) {Q : Addr → Pre} (kk : ∀ d' acts', Q S.heap.size d' acts' ((mn_s3 cA comp S).setTop G)) : wp (multianewarray.make cA [3, 12]) Q E e d acts (S.setTop G) := by
  have b0 : mn_A S.heap S.vm S.slotsUsed cA comp 0 (fun _ => .null) (S.pushCell (arrV cA 3 (fun _ => .null))) := mn_first rfl rfl
  have b1 : mn_A S.heap S.vm S.slotsUsed cA comp 1 (mn_f1 S.heap.size) (mn_s1 cA comp S) := b0.next
  have b2 : mn_A S.heap S.vm S.slotsUsed cA comp 2 (mn_f2 S.heap.size) (mn_s2 cA comp S) := b1.next
  obtain ⟨⟨kA, r1, r2⟩, -, ⟨r5, r6⟩, r7, r8⟩ := id r
  rw [multianewarray.make]
  have hkA : (S.setTop G).vm.classes[cA]? = some kA := r1
  simp only [wp_bind', W.ite, show ¬ (3 : Int32) < 0 by decide, if_false, wp_pure', W.theClass, hkA, r2, Option.some.injEq, exists_eq_left']
  refine W.newArray_of hkA r2 (by show ¬ 3 > _; omega) (by show ¬ 3 * 4 > _; omega) (by show S.heap.size < _; omega) (by show S.slotsUsed + 3 ≤ _; omega) rfl (fun acts1 => ?_)
  rw [mn_grid, State.pushCell_setTop, State.heap_setTop]
  rw [if_neg (by decide), wp_bind', show Int32.toNatClampNeg 3 = 3 by decide, Std.Legacy.Range.forIn_eq_forIn_range', show List.range' (0 : Nat) ([:3] : Std.Legacy.Range).size 1 = [0, 1, 2] by decide]
  simp only [List.forIn_cons, List.forIn_nil, bind_assoc, pure_bind, wp_bind', wp_pure']
  refine mn_turn r b0 (by decide) (fun d1 acts1 => ?_)
  simp only [wp_bind', wp_pure']
  refine mn_turn r b1 (by decide) (fun d2 acts2 => ?_)
  simp only [wp_bind', wp_pure']
  refine mn_turn r b2 (by decide) (fun d3 acts3 => ?_)
  simp only [wp_pure']
  exact kk d3 acts3
/-- the walk's state with the whole grid -/
theorem mn_walk (X : Stand p l e R s m args below meth c S J cells slots) (cA comp : ClassId) : Stand p l e R s m args below meth c (mn_s3 cA comp S) (((J ++ [⟨S.heap.size, 0⟩]) ++ [⟨S.heap.size, 1⟩]) ++ [⟨S.heap.size, 2⟩]) (cells + 4) (slots + 39) ∧ mn_A S.heap S.vm S.slotsUsed cA comp 3 (mn_f3 S.heap.size) (mn_s3 cA comp S) := by
  have b0 : mn_A S.heap S.vm S.slotsUsed cA comp 0 (fun _ => .null) (S.pushCell (arrV cA 3 (fun _ => .null))) := mn_first rfl rfl
  have b1 : mn_A S.heap S.vm S.slotsUsed cA comp 1 (mn_f1 S.heap.size) (mn_s1 cA comp S) := b0.next
  have b2 : mn_A S.heap S.vm S.slotsUsed cA comp 2 (mn_f2 S.heap.size) (mn_s2 cA comp S) := b1.next
  have X0 := X.pushed (arrV cA 3 (fun _ => .null))
  rw [arrV_size] at X0
  exact ⟨mn_stand (mn_stand (mn_stand X0 b0) b1) b2, b2.next⟩
/-- multianewarray of 3 and 12 -/
theorem mn_step {T : State} (X : Stand p l e R s m args below meth c T J cells slots) (hexec : p.tables.exec = Jvm.exec) {own : String} {index : Nat} (hown : s.vm.findClass own = some m.cls) (hclink : (Cond.classLink own index "[[I").before args s = true) (hY : mn_Y s) (harr : (Cond.arrayClass .int).before args s = true)
    {pc : Nat} {ls : Array Slot} {st : List Value} (hdg : decode c.code pc = .ok (.multianewarray index 2, 4)) (hcells : cells + 4 ≤ R.cells) (hslots : slots + 39 ≤ R.slots) :
    ∃ (cA comp : ClassId) (U : State), (s.vm.findClass "[[I" = some cA ∧ s.vm.findClass "[I" = some comp) ∧ U.heap = T.heap ∧ Stand p l e R s m args below meth c (mn_s3 cA comp U) (((J ++ [⟨U.heap.size, 0⟩]) ++ [⟨U.heap.size, 1⟩]) ++ [⟨U.heap.size, 2⟩]) (cells + 4) (slots + 39) ∧ mn_A U.heap U.vm U.slotsUsed cA comp 3 (mn_f3 U.heap.size) (mn_s3 cA comp U) ∧
      ∀ target, Steps p.tables e below ((mn_s3 cA comp U).setTop (F0 m (pc + 4) ls (.ref U.heap.size :: st))) target → Steps p.tables e below (T.setTop (F0 m pc ls (.int 12 :: .int 3 :: st))) target := by
  obtain ⟨cA, comp, kA, y1, y2, y3, y4⟩ := hY
  obtain ⟨c1, kC, cc, z1, z2, z3⟩ := Cond.arrayClass_spec harr
  cases y4.symm.trans z1
  obtain ⟨c0, w1, w2⟩ := Cond.classLink_spec hown hclink e.platform (by rw [X.admits.platform])
  cases y1.symm.trans w1
  obtain ⟨g1, g2, g3⟩ := State.classEntry (e := e) X.warmed w2
  obtain ⟨kA1, i1, i2⟩ := g2.alike.2.2 _ _ y2
  obtain ⟨kC1, j1, j2⟩ := g2.alike.2.2 _ _ z2
  obtain ⟨hr1, hr2⟩ := X.roomAbove hcells hslots
  obtain ⟨X3, b3⟩ := mn_walk (X.noted g2) cA comp
  refine ⟨cA, comp, _, ⟨y1, y4⟩, ?_, X3, b3, fun target hrest => ?_⟩
  · rfl
  have r : mn_R e (T.setVm (T.vm.noted m.cls index (.cls cA))).vm T.heap T.slotsUsed cA comp := ⟨⟨kA1, i1, by rw [i2]; exact y3⟩, ⟨kC1, cc, j1, by rw [j2]; exact z3⟩, by rw [Launch.admits_arrayLengthLimit X.admits, Launch.admits_maxHeapBytes X.admits]; decide, hr1, hr2⟩
  jvm_step X.here [hexec, hdg]
  have hm0 : (T.setTop (F0 m pc ls (.int 12 :: .int 3 :: st))).method? = some m := State.method?_setTop (F0 m pc ls (.int 12 :: .int 3 :: st)) X.here.top
  simp only [multianewarray.sem, wp_bind']
  rw [W.resolveClassAt_links hm0 g1, wp_bind', W.popN, if_neg (by decide)]
  refine ⟨_, State.topJava?_setTop' (s := T.setVm (T.vm.noted m.cls index (.cls cA))) (F0 m pc ls (.int 12 :: .int 3 :: st)) X.here.top, [.int 3, .int 12], st, rfl, rfl, ?_⟩
  have e1 : ((T.setTop (F0 m pc ls (.int 12 :: .int 3 :: st))).setVm (T.vm.noted m.cls index (.cls cA))).setTop (F0 m pc ls st) = (T.setVm (T.vm.noted m.cls index (.cls cA))).setTop (F0 m pc ls st) := State.setTop_setTop (T.setVm (T.vm.noted m.cls index (.cls cA))) _ _
  rw [show ((T.setTop (F0 m pc ls (.int 12 :: .int 3 :: st))).setVm (T.vm.noted m.cls index (.cls cA))).setTop { F0 m pc ls (.int 12 :: .int 3 :: st) with stack := st } = _ from e1]
  simp only [List.mapM_cons, List.mapM_nil, bind_assoc, pure_bind]
  rw [wp_bind']
  refine mn_make r (fun d' acts' => ?_)
  rw [wp_bind', W.mark, W.pushRef]
  refine ⟨_, State.topJava?_setTop' (F0 m pc ls st) X3.here.top, fun acts => ?_⟩
  rw [State.setTop_setTop]
  have ht := X3.here.top
  generalize mn_s3 cA comp (T.setVm (T.vm.noted m.cls index (.cls cA))) = V at hrest ht ⊢
  simp [jvm, ht]
  exact hrest
end MM
theorem mn_list {D : va_G} {cl : List vw_C} {ws : va_W} {H0 H : Heap} {A : Nat → Prop} {es : List va_E} (hP : va_P D cl ws H0) (hD : va_D A ws) (hold : ∀ q, q < H0.size → H[q]? = H0[q]?) (hA : ∀ q, H0.size ≤ q → A q) (hes : ∀ (i : Nat) (x : va_E), es[i]? = some x → va_at D cl (H0.size + i, x) H) : va_P D cl (es.mapIdx (fun i x => (H0.size + i, x)) ++ ws) H ∧ va_D A (es.mapIdx (fun i x => (H0.size + i, x)) ++ ws) := by
  have hlt : ∀ (k : Nat) (q : Nat × va_E), ws[k]? = some q → q.1 < H0.size := fun k q hk => (hP k q hk).lt
  have key : ∀ (k : Nat) (q : Nat × va_E), (es.mapIdx (fun i x => (H0.size + i, x)) ++ ws)[k]? = some q → (∃ x, es[k]? = some x ∧ q = (H0.size + k, x)) ∨ (es.length ≤ k ∧ ws[k - es.length]? = some q) := by
    intro k q hk
    rcases Nat.lt_or_ge k es.length with h | h
    · rw [List.getElem?_append_left (by simpa using h), List.getElem?_mapIdx] at hk
      obtain ⟨x, h1, h2⟩ := Option.map_eq_some_iff.mp hk
      exact Or.inl ⟨x, h1, h2.symm⟩
    · rw [List.getElem?_append_right (by simpa using h), List.length_mapIdx] at hk
      exact Or.inr ⟨h, hk⟩
  refine ⟨fun k q hk => ?_, fun i j a b hi hj hab => ?_, fun k q hk => ?_⟩
  · rcases key k q hk with ⟨x, h1, rfl⟩ | ⟨-, h2⟩
    · exact hes k x h1
    · exact (hP _ q h2).kept (hold q.1 (hlt _ q h2))
  · rcases key i a hi with ⟨x, h1, rfl⟩ | ⟨h1, h2⟩ <;> rcases key j b hj with ⟨y, h3, rfl⟩ | ⟨h3, h4⟩
    · have : H0.size + i = H0.size + j := hab
      omega
    · have h5 := hlt _ b h4
      have : H0.size + i = b.1 := hab
      omega
    · have h5 := hlt _ a h2
      have : a.1 = H0.size + j := hab
      omega
    · have := hD.1 _ _ a b h2 h4 hab
      omega
  · rcases key k q hk with ⟨x, h1, rfl⟩ | ⟨-, h2⟩
    · exact hA _ (Nat.le_add_right _ _)
    · exact hD.2 _ q h2
theorem mn_f3q (h : Nat) : (fun j => va_rf (mn_lk (h + 1) (h + 2) (h + 3) j)) = mn_f3 h := by
  funext j
  match j with
  | 0 => rfl
  | 1 => rfl
  | 2 => rfl
  | j + 3 => simp [mn_f3, mn_f2, mn_f1, updV, mn_lk, va_rf]
section MY
variable {Zf : Nat → Nat → va_W → List (Option Value) → Nat → List Value → Prop} {l : Launch} {D : va_G} {cl : List vw_C} {tys : List (ClassId × FieldType)} {cc : ByteArray} {nL : Nat} {own : String} {Ts : List Cond} {R : Room} {ret : Option FieldType} {post : Option Value → va_W → Prop} {mc ms : Nat} {ini : Bool} {hh : Option (List (Nat × Nat × Nat × Nat))} {Y : State → Prop}
variable {ws : va_W} {L : List (Option Value)} {pc : Nat} {st : List Value} {nc ns : Nat}
theorem zx_mna (X : zd_X Zf l D cl tys cc nL own Ts R ret post mc ms ini hh Y) {index : Nat} {k0 k2 : ClassId} (d : decode cc pc = .ok (.multianewarray index 2, 4)) (hcl : Cond.classLink own index "[[I" ∈ Ts) (harr : Cond.arrayClass .int ∈ Ts) (hYY : ∀ U, Y U → mn_Y U) (ht0 : tys[0]? = some (k0, .int)) (ht2 : tys[2]? = some (k2, .array .int)) (h1 : nc + 4 ≤ mc) (h2 : ns + 39 ≤ ms)
    (k : ∀ q q0 q1 q2, Zf (nc + 4) (ns + 39) ((q, .inl (k2, 3, .inr (.inr (.inr (.inr (mn_lk q0 q1 q2)))))) :: (q0, .inl (k0, 12, .inl (fun _ => 0))) :: (q1, .inl (k0, 12, .inl (fun _ => 0))) :: (q2, .inl (k0, 12, .inl (fun _ => 0))) :: ws) L (pc + 4) (.ref q :: st)) : Zf nc ns ws L pc (.int (nI 12) :: .int (nI 3) :: st) := by
  obtain ⟨p, e, s, m, args, below, meth, c, A, Q, ⟨hx, hb, hml, hown, hts, hK, hr, hlk⟩, hR, hQ, hA, -, -, -, hY, rfl⟩ := X
  intro H locs ls hP hD hS hl T hT S
  subst hT
  obtain ⟨cA, comp, U, ⟨hfA, hfC⟩, hU, S2, ⟨-, -, f3, f4, f5, f6⟩, step⟩ := mn_step S hx hown (hts _ hcl) (hYY s hY.2) (hts _ harr) (ls := ls) (st := st) (by rw [hb]; exact d) (Nat.le_trans h1 hR.1) (Nat.le_trans h2 hR.2)
  cases hfA.symm.trans ((hK.2 2 _ ht2).2)
  cases hfC.symm.trans ((hK.2 0 _ ht0).2)
  rw [hU] at f3 f4 f5 f6 S2 step
  have hes : ∀ (i : Nat) (x : va_E), ([.inl (k2, 3, .inr (.inr (.inr (.inr (mn_lk (T.heap.size + 1) (T.heap.size + 2) (T.heap.size + 3)))))), .inl (k0, 12, .inl (fun _ => 0)), .inl (k0, 12, .inl (fun _ => 0)), .inl (k0, 12, .inl (fun _ => 0))] : List va_E)[i]? = some x → va_at D cl (T.heap.size + i, x) (mn_s3 k2 k0 U).heap := by
    intro i x hi
    match i, hi with
    | 0, hi =>
      have e := Option.some.inj hi
      subst e
      show (mn_s3 k2 k0 U).heap[T.heap.size]? = some (vp_cell k2 _)
      rw [vp_cell_q, mn_f3q]
      exact f5
    | 1, hi =>
      have e := Option.some.inj hi
      subst e
      exact f6 0 (by decide)
    | 2, hi =>
      have e := Option.some.inj hi
      subst e
      exact f6 1 (by decide)
    | 3, hi =>
      have e := Option.some.inj hi
      subst e
      exact f6 2 (by decide)
    | i + 4, hi => exact absurd (show (none : Option va_E) = some x from hi) (by simp)
  obtain ⟨hP4, hD4⟩ := mn_list hP hD f4 (fun q hq => hA q (Nat.le_trans hS.1 hq)) hes
  have hS4 : va_S A s.heap (mn_s3 k2 k0 U).heap (((locs ++ [⟨T.heap.size, 0⟩]) ++ [⟨T.heap.size, 1⟩]) ++ [⟨T.heap.size, 2⟩]) := by
    refine ⟨Nat.le_trans hS.1 (by rw [f3]; omega), fun q q1 q2 => (f4 q (Nat.lt_of_lt_of_le q1 hS.1)).trans (hS.2.1 q q1 q2), fun q hq => ?_⟩
    simp only [List.mem_append, List.mem_singleton] at hq
    rcases hq with ((hq | rfl) | rfl) | rfl
    · exact hS.2.2 q hq
    all_goals exact hA _ hS.1
  obtain ⟨t, a1, b1⟩ := k T.heap.size (T.heap.size + 1) (T.heap.size + 2) (T.heap.size + 3) _ _ ls hP4 hD4 hS4 hl _ rfl S2
  exact ⟨t, step t a1, b1⟩
end MY
