/-! A walk's judgement with its world, its locals and its stack as lists: Z ws L pc st. The machine's own things stand in zd_E. -/
/-- the addresses of a world -/
def zd_A (ws : va_W) : Nat → Prop := fun q => ∃ (k : Nat) (e : va_E), ws[k]? = some (q, e)
/-- the locals by their places: those that are named hold words of one slot -/
def zd_L (ls : Array Slot) (nL : Nat) (L : List (Option Value)) : Prop := ls.size = nL ∧ lv_wf ls ∧ ∀ (i : Nat) (v : Value), L[i]? = some (some v) → v.category = 1 ∧ ls[i]? = some (.val v)
def zd_pairs (L : List (Option Value)) : List (Nat × Value) := L.zipIdx.filterMap (fun q => q.1.map (fun v => (q.2, v)))
theorem zd_pairs_mem {L : List (Option Value)} {i : Nat} {v : Value} : (i, v) ∈ zd_pairs L ↔ L[i]? = some (some v) := by
  unfold zd_pairs
  rw [List.mem_filterMap]
  constructor
  · rintro ⟨⟨o, j⟩, hm, hq⟩
    rw [List.mem_zipIdx_iff_getElem?] at hm
    cases o with
    | none => simp at hq
    | some w => simp at hq; obtain ⟨rfl, rfl⟩ := hq; exact hm
  · intro h
    exact ⟨(some v, i), List.mem_zipIdx_iff_getElem?.mpr h, rfl⟩
theorem zd_L.has {ls : Array Slot} {nL : Nat} {L : List (Option Value)} (h : zd_L ls nL L) : lv_has ls nL (zd_pairs L) := ⟨h.1, h.2.1, fun q hq => (h.2.2 q.1 q.2 (zd_pairs_mem.mp hq)).2⟩
theorem zd_L.at {ls : Array Slot} {nL : Nat} {L : List (Option Value)} (h : zd_L ls nL L) {i : Nat} {v : Value} (hi : L[i]? = some (some v)) : ls[i]? = some (.val v) := (h.2.2 i v hi).2
theorem zd_L.put {ls : Array Slot} {nL : Nat} {L : List (Option Value)} {i : Nat} {v : Value} (h : zd_L ls nL L) (hc : v.category = 1) {ls' : Array Slot}
    (h' : lv_has ls' nL ((i, v) :: (zd_pairs L).filter (fun q => !(q.1 == i) && !(q.1 + 1 == i && q.2.category == 2)))) : zd_L ls' nL (L.set i (some v)) := by
  refine ⟨h'.1, h'.2.1, fun j w hj => ?_⟩
  rw [List.getElem?_set] at hj
  by_cases hij : i = j
  · subst hij
    rw [if_pos rfl] at hj
    by_cases hl : i < L.length
    · rw [if_pos hl] at hj
      have hw : v = w := by simpa using hj
      subst hw
      exact ⟨hc, h'.2.2 (i, v) List.mem_cons_self⟩
    · rw [if_neg hl] at hj; cases hj
  · rw [if_neg hij] at hj
    obtain ⟨c1, -⟩ := h.2.2 j w hj
    refine ⟨c1, h'.2.2 (j, w) (List.mem_cons_of_mem _ (List.mem_filter.mpr ⟨zd_pairs_mem.mpr hj, ?_⟩))⟩
    have : ¬ j = i := fun e => hij e.symm
    simp [this, c1]
/-- fewer locals -/
def zd_le : List (Option Value) → List (Option Value) → Prop
  | [], _ => True
  | none :: r, _ :: t => zd_le r t
  | none :: r, [] => zd_le r []
  | some v :: r, some w :: t => v = w ∧ zd_le r t
  | some _ :: _, none :: _ => False
  | some _ :: _, [] => False
theorem zd_le_get : ∀ {a b : List (Option Value)}, zd_le a b → ∀ (i : Nat) (v : Value), a[i]? = some (some v) → b[i]? = some (some v)
  | [], _, _, i, v, h => by simp at h
  | none :: r, w :: t, hl, i, v, h => by
    cases i with
    | zero => simp at h
    | succ i => simp at h ⊢; exact zd_le_get (a := r) (b := t) hl i v h
  | none :: r, [], hl, i, v, h => by
    cases i with
    | zero => simp at h
    | succ i =>
      simp at h
      have := zd_le_get (a := r) (b := []) hl i v h
      simp at this
  | some v' :: r, some w :: t, hl, i, v, h => by
    obtain ⟨rfl, hl⟩ := hl
    cases i with
    | zero => simpa using h
    | succ i => simp at h ⊢; exact zd_le_get (a := r) (b := t) hl i v h
  | some _ :: _, none :: _, hl, _, _, _ => hl.elim
  | some _ :: _, [], hl, _, _, _ => hl.elim
theorem zd_L.less {ls : Array Slot} {nL : Nat} {L L' : List (Option Value)} (h : zd_L ls nL L) (hl : zd_le L' L) : zd_L ls nL L' := ⟨h.1, h.2.1, fun i v hi => h.2.2 i v (zd_le_get hl i v hi)⟩
/-- a method's end: its answer and the world behind it -/
def zd_Q (D : va_G) (cl : List vw_C) (tys : List (ClassId × FieldType)) (A : Nat → Prop) (post : Option Value → va_W → Prop) : Array Value → State → Outcome → State → Prop := fun _ st oc t =>
  (∃ (v : Option Value) (ws : va_W), oc = .returned v ∧ post v ws ∧ va_P D cl ws t.heap ∧ va_D A ws ∧ va_K D cl tys t) ∧ va_F A st t
/-- a link to a private member of a nest mate -/
def zd_nest : Cond → Bool
  | .fieldLinkNest .. => true
  | .methodLinkNest .. => true
  | _ => false
def zd_ok (w : Cond) : Bool := goodWord w || zd_nest w
/-- the links to nest mates among some words hold -/
def zd_N (Ts : List Cond) (U : State) : Prop := ∀ w ∈ Ts, zd_nest w = true → va_Nw w U
theorem zd_N.warm {Ts : List Cond} {s U : State} (hW : s.WarmedH U.vm) (h : zd_N Ts s) : zd_N Ts U := by
  intro w hw hn
  have h1 := h w hw hn
  cases w <;> first | (simp [zd_nest] at hn; done) | exact va_Nw.warmF hW h1 | exact va_Nw.warmM hW h1
theorem zd_N.same {Ts : List Cond} {s U : State} (hv : s.vm = U.vm) (h : zd_N Ts s) : zd_N Ts U := by
  intro w hw hn
  have h1 := h w hw hn
  cases w <;> first | (simp [zd_nest] at hn; done) | exact va_Nw.same rfl hv h1
theorem zd_nuse {w : Cond} {A : Array Value} {U : State} (hn : zd_nest w = true) (h : va_Nw w U) : w.before A U = true := by
  cases w <;> first | (simp [zd_nest] at hn; done) | exact va_Nw.use rfl h
theorem zd_nof {w : Cond} {A : Array Value} {U : State} (hn : zd_nest w = true) (h : w.before A U = true) : va_Nw w U := by
  cases w <;> first | (simp [zd_nest] at hn; done) | exact va_Nw.of rfl h
def zd_wy (y : MethodName) (cc : ByteArray) (nL : Nat) (ret : Option FieldType) (Ts : List Cond) : List Cond := .code y cc nL ret :: Ts.filter goodWord
/-- a contract over a world of cells at known addresses; nothing is made -/
def zd_Ct (l : Launch) (D : va_G) (cl : List vw_C) (tys : List (ClassId × FieldType)) (Ts : List Cond) (y : MethodName) (cc : ByteArray) (nL : Nat) (ret : Option FieldType) (R : Room) (av : List Value) (ws : va_W) (post : Option Value → va_W → Prop) : Prop :=
  Met l y (zd_wy y cc nL ret Ts) R (va_Pc av (fun U => va_P D cl ws U.heap ∧ va_K D cl tys U ∧ va_D (fun _ => True) ws ∧ zd_N Ts U)) (zd_Q D cl tys (zd_A ws) post) 0 0 (zd_A ws)
def zd_W (p : Program) (l : Launch) (e : Env) (R : Room) (s : State) (m : MethodId) (args : Array Value) (below : List Frame) (meth : Method) (c : Code) (D : va_G) (cl : List vw_C) (A : Nat → Prop) (nL nc ns : Nat) (Q : State → Prop) (ws : va_W) (L : List (Option Value)) (pc : Nat) (st : List Value) : Prop :=
  ∀ (H : Heap) (locs : List Loc) (ls : Array Slot), va_P D cl ws H → va_D A ws → va_S A s.heap H locs → zd_L ls nL L → W p l e R s m args below meth c H locs nc ns Q (F0 m pc ls st)
/-- what stands fast in a walk -/
def zd_B (p : Program) (s : State) (m : MethodId) (args : Array Value) (meth : Method) (c : Code) (D : va_G) (cl : List vw_C) (tys : List (ClassId × FieldType)) (cc : ByteArray) (nL : Nat) (own : String) (Ts : List Cond) (ret : Option FieldType) : Prop :=
  p.tables.exec = Jvm.exec ∧ c.code = cc ∧ c.maxLocals = nL ∧ s.vm.findClass own = some m.cls ∧ (∀ w ∈ Ts, w.before args s = true) ∧ va_K D cl tys s ∧ meth.sig.returnType = ret ∧ meth.locks = false
/-- Z is the walk of a method of ours; nc cells of ns slots have been made -/
def zd_E (Z : va_W → List (Option Value) → Nat → List Value → Prop) (l : Launch) (D : va_G) (cl : List vw_C) (tys : List (ClassId × FieldType)) (cc : ByteArray) (nL : Nat) (own : String) (Ts : List Cond) (R : Room) (ret : Option FieldType) (post : Option Value → va_W → Prop) : Prop :=
  ∃ (p : Program) (e : Env) (s : State) (m : MethodId) (args : Array Value) (below : List Frame) (meth : Method) (c : Code) (A : Nat → Prop) (nc ns : Nat) (Q : State → Prop),
    zd_B p s m args meth c D cl tys cc nL own Ts ret ∧ (nc ≤ R.cells ∧ ns ≤ R.slots) ∧ (∀ t, MQ below (zd_Q D cl tys A post) args s nc ns A t → Q t) ∧
    Z = zd_W p l e R s m args below meth c D cl A nL nc ns Q
theorem zd_imp {p : Program} {l : Launch} {e : Env} {R : Room} {s : State} {m : MethodId} {args : Array Value} {below : List Frame} {meth : Method} {c : Code} {H : Heap} {locs : List Loc} {nc ns : Nat} {Q Q' : State → Prop} {g : JFrame} (h : ∀ t, Q t → Q' t) (w : W p l e R s m args below meth c H locs nc ns Q g) : W p l e R s m args below meth c H locs nc ns Q' g := fun T hT X => by
  obtain ⟨t, a, b⟩ := w T hT X
  exact ⟨t, a, h t b⟩
/-- every word is of the tables -/
def zd_G (Ts : List Cond) : Prop := ∀ w ∈ Ts, goodWord w = true ∨ zd_nest w = true
theorem zd_init : ∀ (av : List Value) (n k i : Nat) (v : Value), (∀ w ∈ av, w.category = 1) → (av.map some ++ List.replicate n (none : Option Value))[i]? = some (some v) → (k + i, v) ∈ lv_args k av ∧ v ∈ av
  | [], n, k, i, v, _, h => by
    simp only [List.map_nil, List.nil_append, List.getElem?_replicate] at h
    by_cases hi : i < n
    · rw [if_pos hi] at h; cases h
    · rw [if_neg hi] at h; cases h
  | a :: r, n, k, 0, v, hc, h => by
    simp at h
    subst h
    exact ⟨by simp [lv_args], List.mem_cons_self⟩
  | a :: r, n, k, i + 1, v, hc, h => by
    have hc1 : a.category = 1 := hc a List.mem_cons_self
    obtain ⟨h1, h2⟩ := zd_init r n (k + 1) i v (fun w hw => hc w (List.mem_cons_of_mem _ hw)) (by simpa using h)
    refine ⟨?_, List.mem_cons_of_mem _ h2⟩
    have e : k + (i + 1) = k + 1 + i := by omega
    rw [e]
    simp only [lv_args]
    have : ¬ a.category = 2 := by omega
    rw [if_neg this]
    exact List.mem_cons_of_mem _ h1
theorem zd_met {l : Launch} {D : va_G} {cl : List vw_C} {tys : List (ClassId × FieldType)} {y : MethodName} {cc : ByteArray} {nL : Nat} {Ts : List Cond} {R : Room} {ret : Option FieldType} {av : List Value} {ws : va_W} {post : Option Value → va_W → Prop}
    (G : zd_G Ts) (hy : plainName y.cls = true) (hc0 : av.all (fun v => v.category == 1) = true) (hn : (lg_sl av).length ≤ nL)
    (body : ∀ Z, zd_E Z l D cl tys cc nL y.cls Ts R ret post → Z ws (av.map some ++ List.replicate (nL - av.length) none) 0 []) : zd_Ct l D cl tys Ts y cc nL ret R av ws post := by
  have hc : ∀ v ∈ av, v.category = 1 := fun v hv => by simpa using List.all_eq_true.mp hc0 v hv
  refine Met.ofW (cc := cc) (maxL := nL) (ret := ret) hy rfl ?_
  intro p e s m args below meth c s₁ B hml hv
  obtain ⟨rfl, hP, hK, hD0, hN0⟩ := hv
  have hD : va_D (zd_A ws) ws := ⟨hD0.1, fun k q hk => ⟨k, q.2, hk⟩⟩
  have hl := lv_entry av (n := nL) hn
  rw [lg_entry_eq]
  have hown : s.vm.findClass y.cls = some m.cls := findClass_of_methodNamed B.named
  have hts := atoms_spec (ws := zd_wy y cc nL ret Ts) B.pre
  refine body _ ⟨p, e, s, m, av.toArray, below, meth, c, zd_A ws, 0, 0, _, ⟨B.exec, B.bytes, hml, hown, fun w hw => (G w hw).elim (fun g => hts w (List.mem_cons_of_mem _ (List.mem_filter.mpr ⟨hw, g⟩))) (fun g => zd_nuse g (hN0 w hw g)), hK, B.returns, B.notSynchronized⟩, ⟨Nat.zero_le _, Nat.zero_le _⟩, fun _ h => h, rfl⟩ s.heap [] _ hP hD va_S.rf ?_
  refine ⟨hl.1, hl.2.1, fun i v hi => ?_⟩
  obtain ⟨h1, h2⟩ := zd_init av _ 0 i v hc hi
  rw [Nat.zero_add] at h1
  exact ⟨hc v h2, hl.2.2 (i, v) h1⟩
/-- the room of d frames -/
def zd_rm (d : Nat) : Room := { frames := d, cells := 0, slots := 0, locals := 40 * d }
/-- a field that the instruction of that number reads: object class ci, place k -/
def zd_F (cl : List vw_C) (Ts : List Cond) (own : String) (index ci k : Nat) : Prop :=
  ∃ (C : String) (T : u_T) (N : Nat), cl[ci]? = some (C, T, N) ∧ (∀ w ∈ u_ws C T N, w ∈ Ts) ∧ k < N ∧ (Cond.fieldLink own index (T k).1 (T k).2.1 (T k).2.2.1 ∈ Ts ∨ ∃ host, Cond.fieldLinkNest own index (T k).1 (T k).2.1 (T k).2.2.1 host ∈ Ts)
/-- an int field that the instruction of that number writes -/
def zd_FP (cl : List vw_C) (Ts : List Cond) (own : String) (index ci k : Nat) : Prop :=
  ∃ (C : String) (T : u_T) (N : Nat) (ty : Nat → FieldType), cl[ci]? = some (C, T, N) ∧ (∀ w ∈ u_ws C T N, w ∈ Ts) ∧ k < N ∧ (Cond.fieldLink own index (T k).1 (T k).2.1 (T k).2.2.1 ∈ Ts ∨ ∃ host, Cond.fieldLinkNest own index (T k).1 (T k).2.1 (T k).2.2.1 host ∈ Ts) ∧
    (∀ k, k < N → parseFieldDescriptor (T k).2.2.1 = some (ty k)) ∧ (∀ a, a < N → ∀ b, b < N → a ≠ b → (T a).2.1 ≠ (T b).2.1) ∧ (T k).2.2.2 = false ∧ parseFieldDescriptor (T k).2.2.1 = some .int
/-- what a call of y needs: the code, the link, the number of its parameters -/
def zd_C (Ts : List Cond) (own : String) (index : Nat) (y : MethodName) (bytes : ByteArray) (maxL : Nat) (r : Option FieldType) (n : Nat) : Prop :=
  Cond.code y bytes maxL r ∈ Ts ∧ Cond.initialized y.cls ∈ Ts ∧ (y.cls ≠ "java/lang/invoke/MethodHandle" ∧ y.cls ≠ "java/lang/invoke/VarHandle") ∧ (parseMethodDescriptor y.desc).map (fun d => d.parameters.length) = some n ∧ maxL ≤ 21 ∧
    (Cond.methodLink own index y ∈ Ts ∨ ∃ host, Cond.methodLinkNest own index y host ∈ Ts)
def zd_is (v0 : Option Value) (w0 : va_W) : Option Value → va_W → Prop := fun v w => v = v0 ∧ w = w0
section ZD
variable {Z : va_W → List (Option Value) → Nat → List Value → Prop} {l : Launch} {D : va_G} {cl : List vw_C} {tys : List (ClassId × FieldType)} {cc : ByteArray} {nL : Nat} {own : String} {Ts : List Cond} {R : Room} {ret : Option FieldType} {post : Option Value → va_W → Prop}
variable {ws : va_W} {L : List (Option Value)} {pc : Nat} {st : List Value}
theorem zd_iconst (E : zd_E Z l D cl tys cc nL own Ts R ret post) {n : Int} {v : Int32} (d : decode cc pc = .ok (.iconst n, 1)) (hv : Int32.ofInt n = v) (k : Z ws L (pc + 1) (.int v :: st)) : Z ws L pc st := by
  obtain ⟨p, e, s, m, args, below, meth, c, A, nc, ns, Q, ⟨hx, hb, hml, hown, hts, hK, hr, hlk⟩, ⟨hnc, hns⟩, hQ, rfl⟩ := E
  exact fun H locs ls hP hD hS hl => lv_iconst hx hb d hv (k H locs ls hP hD hS hl)
theorem zd_bipush (E : zd_E Z l D cl tys cc nL own Ts R ret post) {n : Int} {v : Int32} (d : decode cc pc = .ok (.bipush n, 2)) (hv : (Int8.ofInt n).toInt32 = v) (k : Z ws L (pc + 2) (.int v :: st)) : Z ws L pc st := by
  obtain ⟨p, e, s, m, args, below, meth, c, A, nc, ns, Q, ⟨hx, hb, hml, hown, hts, hK, hr, hlk⟩, ⟨hnc, hns⟩, hQ, rfl⟩ := E
  exact fun H locs ls hP hD hS hl => lv_bipush hx hb d hv (k H locs ls hP hD hS hl)
theorem zd_sipush (E : zd_E Z l D cl tys cc nL own Ts R ret post) {n : Int} {v : Int32} (d : decode cc pc = .ok (.sipush n, 3)) (hv : (Int16.ofInt n).toInt32 = v) (k : Z ws L (pc + 3) (.int v :: st)) : Z ws L pc st := by
  obtain ⟨p, e, s, m, args, below, meth, c, A, nc, ns, Q, ⟨hx, hb, hml, hown, hts, hK, hr, hlk⟩, ⟨hnc, hns⟩, hQ, rfl⟩ := E
  exact fun H locs ls hP hD hS hl => lv_sipush hx hb d hv (k H locs ls hP hD hS hl)
theorem zd_ldc (E : zd_E Z l D cl tys cc nL own Ts R ret post) {index : Nat} {v : Int32} (d : decode cc pc = .ok (.ldc index, 2)) (hc : Cond.constant own index v ∈ Ts) (k : Z ws L (pc + 2) (.int v :: st)) : Z ws L pc st := by
  obtain ⟨p, e, s, m, args, below, meth, c, A, nc, ns, Q, ⟨hx, hb, hml, hown, hts, hK, hr, hlk⟩, ⟨hnc, hns⟩, hQ, rfl⟩ := E
  exact fun H locs ls hP hD hS hl => lv_ldc hx hb hown (hts _ hc) d (k H locs ls hP hD hS hl)
theorem zd_iload_n (E : zd_E Z l D cl tys cc nL own Ts R ret post) {i : Fin 4} {x : Int32} (d : decode cc pc = .ok (.iload_n i, 1)) (h : L[(i : Nat)]? = some (some (.int x))) (k : Z ws L (pc + 1) (.int x :: st)) : Z ws L pc st := by
  obtain ⟨p, e, s, m, args, below, meth, c, A, nc, ns, Q, ⟨hx, hb, hml, hown, hts, hK, hr, hlk⟩, ⟨hnc, hns⟩, hQ, rfl⟩ := E
  exact fun H locs ls hP hD hS hl => lv_iload_n hx hb d rfl (hl.at h) (k H locs ls hP hD hS hl)
theorem zd_iload (E : zd_E Z l D cl tys cc nL own Ts R ret post) {i : Nat} {x : Int32} (d : decode cc pc = .ok (.iload i, 2)) (h : L[i]? = some (some (.int x))) (k : Z ws L (pc + 2) (.int x :: st)) : Z ws L pc st := by
  obtain ⟨p, e, s, m, args, below, meth, c, A, nc, ns, Q, ⟨hx, hb, hml, hown, hts, hK, hr, hlk⟩, ⟨hnc, hns⟩, hQ, rfl⟩ := E
  exact fun H locs ls hP hD hS hl => lv_iload hx hb d (hl.at h) (k H locs ls hP hD hS hl)
theorem zd_istore_n (E : zd_E Z l D cl tys cc nL own Ts R ret post) {i : Fin 4} {x : Int32} (d : decode cc pc = .ok (.istore_n i, 1)) (hn : (i : Nat) < nL) (k : Z ws (L.set i (some (.int x))) (pc + 1) st) : Z ws L pc (.int x :: st) := by
  obtain ⟨p, e, s, m, args, below, meth, c, A, nc, ns, Q, ⟨hx, hb, hml, hown, hts, hK, hr, hlk⟩, ⟨hnc, hns⟩, hQ, rfl⟩ := E
  exact fun H locs ls hP hD hS hl => lv_istore_n hx hb d rfl hl.has hn rfl (fun ls1 h1 => k H locs ls1 hP hD hS (hl.put rfl h1))
theorem zd_istore (E : zd_E Z l D cl tys cc nL own Ts R ret post) {i : Nat} {x : Int32} (d : decode cc pc = .ok (.istore i, 2)) (hn : i < nL) (k : Z ws (L.set i (some (.int x))) (pc + 2) st) : Z ws L pc (.int x :: st) := by
  obtain ⟨p, e, s, m, args, below, meth, c, A, nc, ns, Q, ⟨hx, hb, hml, hown, hts, hK, hr, hlk⟩, ⟨hnc, hns⟩, hQ, rfl⟩ := E
  exact fun H locs ls hP hD hS hl => lv_istore hx hb d hl.has hn rfl (fun ls1 h1 => k H locs ls1 hP hD hS (hl.put rfl h1))
theorem zd_aload_n (E : zd_E Z l D cl tys cc nL own Ts R ret post) {i : Fin 4} {x : Nat} (d : decode cc pc = .ok (.aload_n i, 1)) (h : L[(i : Nat)]? = some (some (.ref x))) (k : Z ws L (pc + 1) (.ref x :: st)) : Z ws L pc st := by
  obtain ⟨p, e, s, m, args, below, meth, c, A, nc, ns, Q, ⟨hx, hb, hml, hown, hts, hK, hr, hlk⟩, ⟨hnc, hns⟩, hQ, rfl⟩ := E
  exact fun H locs ls hP hD hS hl => lv_aload_n hx hb d rfl (hl.at h) (k H locs ls hP hD hS hl)
theorem zd_aload (E : zd_E Z l D cl tys cc nL own Ts R ret post) {i : Nat} {x : Nat} (d : decode cc pc = .ok (.aload i, 2)) (h : L[i]? = some (some (.ref x))) (k : Z ws L (pc + 2) (.ref x :: st)) : Z ws L pc st := by
  obtain ⟨p, e, s, m, args, below, meth, c, A, nc, ns, Q, ⟨hx, hb, hml, hown, hts, hK, hr, hlk⟩, ⟨hnc, hns⟩, hQ, rfl⟩ := E
  exact fun H locs ls hP hD hS hl => lv_aload hx hb d (hl.at h) (k H locs ls hP hD hS hl)
theorem zd_astore_n (E : zd_E Z l D cl tys cc nL own Ts R ret post) {i : Fin 4} {x : Nat} (d : decode cc pc = .ok (.astore_n i, 1)) (hn : (i : Nat) < nL) (k : Z ws (L.set i (some (.ref x))) (pc + 1) st) : Z ws L pc (.ref x :: st) := by
  obtain ⟨p, e, s, m, args, below, meth, c, A, nc, ns, Q, ⟨hx, hb, hml, hown, hts, hK, hr, hlk⟩, ⟨hnc, hns⟩, hQ, rfl⟩ := E
  exact fun H locs ls hP hD hS hl => lv_astore_n hx hb d rfl hl.has hn rfl (fun ls1 h1 => k H locs ls1 hP hD hS (hl.put rfl h1))
theorem zd_astore (E : zd_E Z l D cl tys cc nL own Ts R ret post) {i : Nat} {x : Nat} (d : decode cc pc = .ok (.astore i, 2)) (hn : i < nL) (k : Z ws (L.set i (some (.ref x))) (pc + 2) st) : Z ws L pc (.ref x :: st) := by
  obtain ⟨p, e, s, m, args, below, meth, c, A, nc, ns, Q, ⟨hx, hb, hml, hown, hts, hK, hr, hlk⟩, ⟨hnc, hns⟩, hQ, rfl⟩ := E
  exact fun H locs ls hP hD hS hl => lv_astore hx hb d hl.has hn rfl (fun ls1 h1 => k H locs ls1 hP hD hS (hl.put rfl h1))
theorem zd_iinc (E : zd_E Z l D cl tys cc nL own Ts R ret post) {i : Nat} {n : Int} {x v : Int32} (d : decode cc pc = .ok (.iinc i n, 3)) (h : L[i]? = some (some (.int x))) (hv : x + Int32.ofInt n = v) (hn : i < nL) (k : Z ws (L.set i (some (.int v))) (pc + 3) st) : Z ws L pc st := by
  obtain ⟨p, e, s, m, args, below, meth, c, A, nc, ns, Q, ⟨hx, hb, hml, hown, hts, hK, hr, hlk⟩, ⟨hnc, hns⟩, hQ, rfl⟩ := E
  intro H locs ls hP hD hS hl
  obtain ⟨k0, hk0⟩ := List.mem_iff_getElem?.mp (zd_pairs_mem.mpr h)
  exact lv_iinc hx hb d hl.has hk0 hv hn rfl (fun ls1 h1 => k H locs ls1 hP hD hS (hl.put rfl h1))
theorem zd_iadd (E : zd_E Z l D cl tys cc nL own Ts R ret post) {x y : Int32} (d : decode cc pc = .ok (.iadd, 1)) (k : Z ws L (pc + 1) (.int (x + y) :: st)) : Z ws L pc (.int y :: .int x :: st) := by
  obtain ⟨p, e, s, m, args, below, meth, c, A, nc, ns, Q, ⟨hx, hb, hml, hown, hts, hK, hr, hlk⟩, ⟨hnc, hns⟩, hQ, rfl⟩ := E
  exact fun H locs ls hP hD hS hl => lv_iadd hx hb d (k H locs ls hP hD hS hl)
theorem zd_isub (E : zd_E Z l D cl tys cc nL own Ts R ret post) {x y : Int32} (d : decode cc pc = .ok (.isub, 1)) (k : Z ws L (pc + 1) (.int (x - y) :: st)) : Z ws L pc (.int y :: .int x :: st) := by
  obtain ⟨p, e, s, m, args, below, meth, c, A, nc, ns, Q, ⟨hx, hb, hml, hown, hts, hK, hr, hlk⟩, ⟨hnc, hns⟩, hQ, rfl⟩ := E
  exact fun H locs ls hP hD hS hl => lv_isub hx hb d (k H locs ls hP hD hS hl)
theorem zd_imul (E : zd_E Z l D cl tys cc nL own Ts R ret post) {x y : Int32} (d : decode cc pc = .ok (.imul, 1)) (k : Z ws L (pc + 1) (.int (x * y) :: st)) : Z ws L pc (.int y :: .int x :: st) := by
  obtain ⟨p, e, s, m, args, below, meth, c, A, nc, ns, Q, ⟨hx, hb, hml, hown, hts, hK, hr, hlk⟩, ⟨hnc, hns⟩, hQ, rfl⟩ := E
  exact fun H locs ls hP hD hS hl => lv_imul hx hb d (k H locs ls hP hD hS hl)
theorem zd_iand (E : zd_E Z l D cl tys cc nL own Ts R ret post) {x y : Int32} (d : decode cc pc = .ok (.iand, 1)) (k : Z ws L (pc + 1) (.int (x &&& y) :: st)) : Z ws L pc (.int y :: .int x :: st) := by
  obtain ⟨p, e, s, m, args, below, meth, c, A, nc, ns, Q, ⟨hx, hb, hml, hown, hts, hK, hr, hlk⟩, ⟨hnc, hns⟩, hQ, rfl⟩ := E
  exact fun H locs ls hP hD hS hl => lv_iand hx hb d (k H locs ls hP hD hS hl)
theorem zd_ior (E : zd_E Z l D cl tys cc nL own Ts R ret post) {x y : Int32} (d : decode cc pc = .ok (.ior, 1)) (k : Z ws L (pc + 1) (.int (x ||| y) :: st)) : Z ws L pc (.int y :: .int x :: st) := by
  obtain ⟨p, e, s, m, args, below, meth, c, A, nc, ns, Q, ⟨hx, hb, hml, hown, hts, hK, hr, hlk⟩, ⟨hnc, hns⟩, hQ, rfl⟩ := E
  exact fun H locs ls hP hD hS hl => lv_ior hx hb d (k H locs ls hP hD hS hl)
theorem zd_ixor (E : zd_E Z l D cl tys cc nL own Ts R ret post) {x y : Int32} (d : decode cc pc = .ok (.ixor, 1)) (k : Z ws L (pc + 1) (.int (x ^^^ y) :: st)) : Z ws L pc (.int y :: .int x :: st) := by
  obtain ⟨p, e, s, m, args, below, meth, c, A, nc, ns, Q, ⟨hx, hb, hml, hown, hts, hK, hr, hlk⟩, ⟨hnc, hns⟩, hQ, rfl⟩ := E
  exact fun H locs ls hP hD hS hl => lv_ixor hx hb d (k H locs ls hP hD hS hl)
theorem zd_ishl (E : zd_E Z l D cl tys cc nL own Ts R ret post) {x y : Int32} (d : decode cc pc = .ok (.ishl, 1)) (k : Z ws L (pc + 1) (.int (x <<< (y &&& 31)) :: st)) : Z ws L pc (.int y :: .int x :: st) := by
  obtain ⟨p, e, s, m, args, below, meth, c, A, nc, ns, Q, ⟨hx, hb, hml, hown, hts, hK, hr, hlk⟩, ⟨hnc, hns⟩, hQ, rfl⟩ := E
  exact fun H locs ls hP hD hS hl => lv_ishl hx hb d (k H locs ls hP hD hS hl)
theorem zd_ishr (E : zd_E Z l D cl tys cc nL own Ts R ret post) {x y : Int32} (d : decode cc pc = .ok (.ishr, 1)) (k : Z ws L (pc + 1) (.int (x >>> (y &&& 31)) :: st)) : Z ws L pc (.int y :: .int x :: st) := by
  obtain ⟨p, e, s, m, args, below, meth, c, A, nc, ns, Q, ⟨hx, hb, hml, hown, hts, hK, hr, hlk⟩, ⟨hnc, hns⟩, hQ, rfl⟩ := E
  exact fun H locs ls hP hD hS hl => lv_ishr hx hb d (k H locs ls hP hD hS hl)
theorem zd_irem (E : zd_E Z l D cl tys cc nL own Ts R ret post) {x y : Int32} (d : decode cc pc = .ok (.irem, 1)) (hne : ¬ y = 0) (k : Z ws L (pc + 1) (.int (x - x / y * y) :: st)) : Z ws L pc (.int y :: .int x :: st) := by
  obtain ⟨p, e, s, m, args, below, meth, c, A, nc, ns, Q, ⟨hx, hb, hml, hown, hts, hK, hr, hlk⟩, ⟨hnc, hns⟩, hQ, rfl⟩ := E
  exact fun H locs ls hP hD hS hl => lv_irem hx hb d hne (k H locs ls hP hD hS hl)
theorem zd_dup (E : zd_E Z l D cl tys cc nL own Ts R ret post) {a : Value} (d : decode cc pc = .ok (.dup, 1)) (ha : a.category = 1) (k : Z ws L (pc + 1) (a :: a :: st)) : Z ws L pc (a :: st) := by
  obtain ⟨p, e, s, m, args, below, meth, c, A, nc, ns, Q, ⟨hx, hb, hml, hown, hts, hK, hr, hlk⟩, ⟨hnc, hns⟩, hQ, rfl⟩ := E
  exact fun H locs ls hP hD hS hl => lv_dup hx hb d ha (k H locs ls hP hD hS hl)
theorem zd_pop (E : zd_E Z l D cl tys cc nL own Ts R ret post) {a : Value} (d : decode cc pc = .ok (.pop, 1)) (ha : a.category = 1) (k : Z ws L (pc + 1) st) : Z ws L pc (a :: st) := by
  obtain ⟨p, e, s, m, args, below, meth, c, A, nc, ns, Q, ⟨hx, hb, hml, hown, hts, hK, hr, hlk⟩, ⟨hnc, hns⟩, hQ, rfl⟩ := E
  exact fun H locs ls hP hD hS hl => lv_pop hx hb d ha (k H locs ls hP hD hS hl)
theorem zd_dup_x1 (E : zd_E Z l D cl tys cc nL own Ts R ret post) {a b : Value} (d : decode cc pc = .ok (.dup_x1, 1)) (ha : a.category = 1) (hb1 : b.category = 1) (k : Z ws L (pc + 1) (a :: b :: a :: st)) : Z ws L pc (a :: b :: st) := by
  obtain ⟨p, e, s, m, args, below, meth, c, A, nc, ns, Q, ⟨hx, hb, hml, hown, hts, hK, hr, hlk⟩, ⟨hnc, hns⟩, hQ, rfl⟩ := E
  exact fun H locs ls hP hD hS hl => lv_dup_x1 hx hb d ha hb1 (k H locs ls hP hD hS hl)
theorem zd_dup_x2 (E : zd_E Z l D cl tys cc nL own Ts R ret post) {a b g : Value} (d : decode cc pc = .ok (.dup_x2, 1)) (ha : a.category = 1) (hb1 : b.category = 1) (hg : g.category = 1) (k : Z ws L (pc + 1) (a :: b :: g :: a :: st)) : Z ws L pc (a :: b :: g :: st) := by
  obtain ⟨p, e, s, m, args, below, meth, c, A, nc, ns, Q, ⟨hx, hb, hml, hown, hts, hK, hr, hlk⟩, ⟨hnc, hns⟩, hQ, rfl⟩ := E
  exact fun H locs ls hP hD hS hl => lv_dup_x2 hx hb d ha hb1 hg (k H locs ls hP hD hS hl)
theorem zd_dup2 (E : zd_E Z l D cl tys cc nL own Ts R ret post) {a b : Value} (d : decode cc pc = .ok (.dup2, 1)) (ha : a.category = 1) (hb1 : b.category = 1) (k : Z ws L (pc + 1) (a :: b :: a :: b :: st)) : Z ws L pc (a :: b :: st) := by
  obtain ⟨p, e, s, m, args, below, meth, c, A, nc, ns, Q, ⟨hx, hb, hml, hown, hts, hK, hr, hlk⟩, ⟨hnc, hns⟩, hQ, rfl⟩ := E
  exact fun H locs ls hP hD hS hl => lv_dup2_11 hx hb d ha hb1 (k H locs ls hP hD hS hl)
theorem zd_if_eq (E : zd_E Z l D cl tys cc nL own Ts R ret post) {x : Int32} {off : Int} (tgt : Nat) (d : decode cc pc = .ok (.ifCond .eq off, 3)) (ht : (pc : Int) + off = (tgt : Int)) (kt : x = 0 → Z ws L tgt st) (kf : ¬ (x = 0) → Z ws L (pc + 3) st) : Z ws L pc (.int x :: st) := by
  obtain ⟨p, e, s, m, args, below, meth, c, A, nc, ns, Q, ⟨hx, hb, hml, hown, hts, hK, hr, hlk⟩, ⟨hnc, hns⟩, hQ, rfl⟩ := E
  exact fun H locs ls hP hD hS hl => lv_if_eq hx hb d ht (fun h => kt (by first | exact h | simpa using h) H locs ls hP hD hS hl) (fun h => kf (by first | exact h | simpa using h) H locs ls hP hD hS hl)
theorem zd_ic_eq (E : zd_E Z l D cl tys cc nL own Ts R ret post) {x y : Int32} {off : Int} (tgt : Nat) (d : decode cc pc = .ok (.if_icmp .eq off, 3)) (ht : (pc : Int) + off = (tgt : Int)) (kt : x = y → Z ws L tgt st) (kf : ¬ (x = y) → Z ws L (pc + 3) st) : Z ws L pc (.int y :: .int x :: st) := by
  obtain ⟨p, e, s, m, args, below, meth, c, A, nc, ns, Q, ⟨hx, hb, hml, hown, hts, hK, hr, hlk⟩, ⟨hnc, hns⟩, hQ, rfl⟩ := E
  exact fun H locs ls hP hD hS hl => lv_icmp_eq hx hb d ht (fun h => kt (by first | exact h | simpa using h) H locs ls hP hD hS hl) (fun h => kf (by first | exact h | simpa using h) H locs ls hP hD hS hl)
theorem zd_if_ne (E : zd_E Z l D cl tys cc nL own Ts R ret post) {x : Int32} {off : Int} (tgt : Nat) (d : decode cc pc = .ok (.ifCond .ne off, 3)) (ht : (pc : Int) + off = (tgt : Int)) (kt : ¬ x = 0 → Z ws L tgt st) (kf : ¬ (¬ x = 0) → Z ws L (pc + 3) st) : Z ws L pc (.int x :: st) := by
  obtain ⟨p, e, s, m, args, below, meth, c, A, nc, ns, Q, ⟨hx, hb, hml, hown, hts, hK, hr, hlk⟩, ⟨hnc, hns⟩, hQ, rfl⟩ := E
  exact fun H locs ls hP hD hS hl => lv_if_ne hx hb d ht (fun h => kt (by first | exact h | simpa using h) H locs ls hP hD hS hl) (fun h => kf (by first | exact h | simpa using h) H locs ls hP hD hS hl)
theorem zd_ic_ne (E : zd_E Z l D cl tys cc nL own Ts R ret post) {x y : Int32} {off : Int} (tgt : Nat) (d : decode cc pc = .ok (.if_icmp .ne off, 3)) (ht : (pc : Int) + off = (tgt : Int)) (kt : ¬ x = y → Z ws L tgt st) (kf : ¬ (¬ x = y) → Z ws L (pc + 3) st) : Z ws L pc (.int y :: .int x :: st) := by
  obtain ⟨p, e, s, m, args, below, meth, c, A, nc, ns, Q, ⟨hx, hb, hml, hown, hts, hK, hr, hlk⟩, ⟨hnc, hns⟩, hQ, rfl⟩ := E
  exact fun H locs ls hP hD hS hl => lv_icmp_ne hx hb d ht (fun h => kt (by first | exact h | simpa using h) H locs ls hP hD hS hl) (fun h => kf (by first | exact h | simpa using h) H locs ls hP hD hS hl)
theorem zd_if_lt (E : zd_E Z l D cl tys cc nL own Ts R ret post) {x : Int32} {off : Int} (tgt : Nat) (d : decode cc pc = .ok (.ifCond .lt off, 3)) (ht : (pc : Int) + off = (tgt : Int)) (kt : x < 0 → Z ws L tgt st) (kf : ¬ (x < 0) → Z ws L (pc + 3) st) : Z ws L pc (.int x :: st) := by
  obtain ⟨p, e, s, m, args, below, meth, c, A, nc, ns, Q, ⟨hx, hb, hml, hown, hts, hK, hr, hlk⟩, ⟨hnc, hns⟩, hQ, rfl⟩ := E
  exact fun H locs ls hP hD hS hl => lv_if_lt hx hb d ht (fun h => kt (by first | exact h | simpa using h) H locs ls hP hD hS hl) (fun h => kf (by first | exact h | simpa using h) H locs ls hP hD hS hl)
theorem zd_ic_lt (E : zd_E Z l D cl tys cc nL own Ts R ret post) {x y : Int32} {off : Int} (tgt : Nat) (d : decode cc pc = .ok (.if_icmp .lt off, 3)) (ht : (pc : Int) + off = (tgt : Int)) (kt : x < y → Z ws L tgt st) (kf : ¬ (x < y) → Z ws L (pc + 3) st) : Z ws L pc (.int y :: .int x :: st) := by
  obtain ⟨p, e, s, m, args, below, meth, c, A, nc, ns, Q, ⟨hx, hb, hml, hown, hts, hK, hr, hlk⟩, ⟨hnc, hns⟩, hQ, rfl⟩ := E
  exact fun H locs ls hP hD hS hl => lv_icmp_lt hx hb d ht (fun h => kt (by first | exact h | simpa using h) H locs ls hP hD hS hl) (fun h => kf (by first | exact h | simpa using h) H locs ls hP hD hS hl)
theorem zd_if_ge (E : zd_E Z l D cl tys cc nL own Ts R ret post) {x : Int32} {off : Int} (tgt : Nat) (d : decode cc pc = .ok (.ifCond .ge off, 3)) (ht : (pc : Int) + off = (tgt : Int)) (kt : 0 ≤ x → Z ws L tgt st) (kf : ¬ (0 ≤ x) → Z ws L (pc + 3) st) : Z ws L pc (.int x :: st) := by
  obtain ⟨p, e, s, m, args, below, meth, c, A, nc, ns, Q, ⟨hx, hb, hml, hown, hts, hK, hr, hlk⟩, ⟨hnc, hns⟩, hQ, rfl⟩ := E
  exact fun H locs ls hP hD hS hl => lv_if_ge hx hb d ht (fun h => kt (by first | exact h | simpa using h) H locs ls hP hD hS hl) (fun h => kf (by first | exact h | simpa using h) H locs ls hP hD hS hl)
theorem zd_ic_ge (E : zd_E Z l D cl tys cc nL own Ts R ret post) {x y : Int32} {off : Int} (tgt : Nat) (d : decode cc pc = .ok (.if_icmp .ge off, 3)) (ht : (pc : Int) + off = (tgt : Int)) (kt : y ≤ x → Z ws L tgt st) (kf : ¬ (y ≤ x) → Z ws L (pc + 3) st) : Z ws L pc (.int y :: .int x :: st) := by
  obtain ⟨p, e, s, m, args, below, meth, c, A, nc, ns, Q, ⟨hx, hb, hml, hown, hts, hK, hr, hlk⟩, ⟨hnc, hns⟩, hQ, rfl⟩ := E
  exact fun H locs ls hP hD hS hl => lv_icmp_ge hx hb d ht (fun h => kt (by first | exact h | simpa using h) H locs ls hP hD hS hl) (fun h => kf (by first | exact h | simpa using h) H locs ls hP hD hS hl)
theorem zd_if_gt (E : zd_E Z l D cl tys cc nL own Ts R ret post) {x : Int32} {off : Int} (tgt : Nat) (d : decode cc pc = .ok (.ifCond .gt off, 3)) (ht : (pc : Int) + off = (tgt : Int)) (kt : 0 < x → Z ws L tgt st) (kf : ¬ (0 < x) → Z ws L (pc + 3) st) : Z ws L pc (.int x :: st) := by
  obtain ⟨p, e, s, m, args, below, meth, c, A, nc, ns, Q, ⟨hx, hb, hml, hown, hts, hK, hr, hlk⟩, ⟨hnc, hns⟩, hQ, rfl⟩ := E
  exact fun H locs ls hP hD hS hl => lv_if_gt hx hb d ht (fun h => kt (by first | exact h | simpa using h) H locs ls hP hD hS hl) (fun h => kf (by first | exact h | simpa using h) H locs ls hP hD hS hl)
theorem zd_ic_gt (E : zd_E Z l D cl tys cc nL own Ts R ret post) {x y : Int32} {off : Int} (tgt : Nat) (d : decode cc pc = .ok (.if_icmp .gt off, 3)) (ht : (pc : Int) + off = (tgt : Int)) (kt : y < x → Z ws L tgt st) (kf : ¬ (y < x) → Z ws L (pc + 3) st) : Z ws L pc (.int y :: .int x :: st) := by
  obtain ⟨p, e, s, m, args, below, meth, c, A, nc, ns, Q, ⟨hx, hb, hml, hown, hts, hK, hr, hlk⟩, ⟨hnc, hns⟩, hQ, rfl⟩ := E
  exact fun H locs ls hP hD hS hl => lv_icmp_gt hx hb d ht (fun h => kt (by first | exact h | simpa using h) H locs ls hP hD hS hl) (fun h => kf (by first | exact h | simpa using h) H locs ls hP hD hS hl)
theorem zd_if_le (E : zd_E Z l D cl tys cc nL own Ts R ret post) {x : Int32} {off : Int} (tgt : Nat) (d : decode cc pc = .ok (.ifCond .le off, 3)) (ht : (pc : Int) + off = (tgt : Int)) (kt : x ≤ 0 → Z ws L tgt st) (kf : ¬ (x ≤ 0) → Z ws L (pc + 3) st) : Z ws L pc (.int x :: st) := by
  obtain ⟨p, e, s, m, args, below, meth, c, A, nc, ns, Q, ⟨hx, hb, hml, hown, hts, hK, hr, hlk⟩, ⟨hnc, hns⟩, hQ, rfl⟩ := E
  exact fun H locs ls hP hD hS hl => lv_if_le hx hb d ht (fun h => kt (by first | exact h | simpa using h) H locs ls hP hD hS hl) (fun h => kf (by first | exact h | simpa using h) H locs ls hP hD hS hl)
theorem zd_ic_le (E : zd_E Z l D cl tys cc nL own Ts R ret post) {x y : Int32} {off : Int} (tgt : Nat) (d : decode cc pc = .ok (.if_icmp .le off, 3)) (ht : (pc : Int) + off = (tgt : Int)) (kt : x ≤ y → Z ws L tgt st) (kf : ¬ (x ≤ y) → Z ws L (pc + 3) st) : Z ws L pc (.int y :: .int x :: st) := by
  obtain ⟨p, e, s, m, args, below, meth, c, A, nc, ns, Q, ⟨hx, hb, hml, hown, hts, hK, hr, hlk⟩, ⟨hnc, hns⟩, hQ, rfl⟩ := E
  exact fun H locs ls hP hD hS hl => lv_icmp_le hx hb d ht (fun h => kt (by first | exact h | simpa using h) H locs ls hP hD hS hl) (fun h => kf (by first | exact h | simpa using h) H locs ls hP hD hS hl)
theorem zd_goto (E : zd_E Z l D cl tys cc nL own Ts R ret post) {off : Int} (tgt : Nat) (d : decode cc pc = .ok (.goto off, 3)) (ht : (pc : Int) + off = (tgt : Int)) (k : Z ws L tgt st) : Z ws L pc st := by
  obtain ⟨p, e, s, m, args, below, meth, c, A, nc, ns, Q, ⟨hx, hb, hml, hown, hts, hK, hr, hlk⟩, ⟨hnc, hns⟩, hQ, rfl⟩ := E
  exact fun H locs ls hP hD hS hl => lv_goto hx hb d ht (k H locs ls hP hD hS hl)
theorem zd_get (E : zd_E Z l D cl tys cc nL own Ts R ret post) {index ci i a : Nat} {fs : List Value} {v : Value} (d : decode cc pc = .ok (.getfield index, 3)) (F : zd_F cl Ts own index ci i) (j : Nat) (he : ws[j]? = some (a, .inr (ci, fs))) (hv : fs[i]? = some v) (k : Z ws L (pc + 3) (v :: st)) : Z ws L pc (.ref a :: st) := by
  obtain ⟨p, e, s, m, args, below, meth, c, A, nc, ns, Q, ⟨hx, hb, hml, hown, hts, hK, hr, hlk⟩, ⟨hnc, hns⟩, hQ, rfl⟩ := E
  obtain ⟨C, T, N, hc, hin, hk, hlink | ⟨host, hlink⟩⟩ := F
  · exact fun H locs ls hP hD hS hl => va_get hx hb hts hin hown hK hP j he hc i hk (hts _ hlink) (fun _ h => h) hv d (k H locs ls hP hD hS hl)
  · exact fun H locs ls hP hD hS hl => va_getN hx hb hts hin hown hK hP j he hc i hk (hts _ hlink) (fun _ h => h) hv d (k H locs ls hP hD hS hl)
theorem zd_put (E : zd_E Z l D cl tys cc nL own Ts R ret post) {index ci i a : Nat} {fs : List Value} {x : Int32} {ws1 : va_W} (d : decode cc pc = .ok (.putfield index, 3)) (F : zd_FP cl Ts own index ci i) (j : Nat) (he : ws[j]? = some (a, .inr (ci, fs))) (hl0 : i < fs.length) (hw : ws.set j (a, .inr (ci, fs.set i (.int x))) = ws1) (k : Z ws1 L (pc + 3) st) : Z ws L pc (.int x :: .ref a :: st) := by
  obtain ⟨p, e, s, m, args, below, meth, c, A, nc, ns, Q, ⟨hx, hb, hml, hown, hts, hK, hr, hlk⟩, ⟨hnc, hns⟩, hQ, rfl⟩ := E
  subst hw
  obtain ⟨C, T, N, ty, hc, hin, hk, hlink, hty, hnm, hfin, hpi⟩ := F
  rcases hlink with hlink | ⟨host, hlink⟩
  · exact fun H locs ls hP hD hS hl => va_put hx hb hts hin ty hty hnm hown hK hP hD hS j he hc i hk (hts _ hlink) (fun _ h => h) hfin (ty := .int) hpi rfl rfl hl0 d (fun H1 locs1 hP1 hD1 hS1 => k H1 locs1 ls hP1 hD1 hS1 hl)
  · exact fun H locs ls hP hD hS hl => va_putN hx hb hts hin ty hty hnm hown hK hP hD hS j he hc i hk (hts _ hlink) (fun _ h => h) hfin (ty := .int) hpi rfl rfl hl0 d (fun H1 locs1 hP1 hD1 hS1 => k H1 locs1 ls hP1 hD1 hS1 hl)
theorem zd_iald (E : zd_E Z l D cl tys cc nL own Ts R ret post) {a t0 N : Nat} {cA : ClassId} {f : Nat → Int32} {i : Int32} (d : decode cc pc = .ok (.iaload, 1)) (j : Nat) (ha : ws[j]? = some (a, .inl (cA, N, .inl f))) (ht : tys[t0]? = some (cA, .int)) (x : Nat) (hi : i = nI x) (hx1 : x < N) (hN : N < 2 ^ 31) (k : Z ws L (pc + 1) (.int (f x) :: st)) : Z ws L pc (.int i :: .ref a :: st) := by
  obtain ⟨p, e, s, m, args, below, meth, c, A, nc, ns, Q, ⟨hx, hb, hml, hown, hts, hK, hr, hlk⟩, ⟨hnc, hns⟩, hQ, rfl⟩ := E
  subst hi
  have e1 : (nI x).toNatClampNeg = x := nI_clamp (Nat.lt_trans hx1 hN)
  exact fun H locs ls hP hD hS hl => va_iald hx hb hK hP j t0 ha ht (vp_in_nI hx1 hN) d (by rw [e1]; exact k H locs ls hP hD hS hl)
theorem zd_zald (E : zd_E Z l D cl tys cc nL own Ts R ret post) {a t0 N : Nat} {cA : ClassId} {f : Nat → Int32} {i : Int32} (d : decode cc pc = .ok (.baload, 1)) (j : Nat) (ha : ws[j]? = some (a, .inl (cA, N, .inl f))) (ht : tys[t0]? = some (cA, .boolean)) (x : Nat) (hi : i = nI x) (hx1 : x < N) (hN : N < 2 ^ 31) (k : Z ws L (pc + 1) (.int (f x) :: st)) : Z ws L pc (.int i :: .ref a :: st) := by
  obtain ⟨p, e, s, m, args, below, meth, c, A, nc, ns, Q, ⟨hx, hb, hml, hown, hts, hK, hr, hlk⟩, ⟨hnc, hns⟩, hQ, rfl⟩ := E
  subst hi
  have e1 : (nI x).toNatClampNeg = x := nI_clamp (Nat.lt_trans hx1 hN)
  exact fun H locs ls hP hD hS hl => va_zald hx hb hK hP j t0 ha ht (vp_in_nI hx1 hN) d (by rw [e1]; exact k H locs ls hP hD hS hl)
theorem zd_iast (E : zd_E Z l D cl tys cc nL own Ts R ret post) {a t0 N : Nat} {cA : ClassId} {f : Nat → Int32} {i v : Int32} {ws1 : va_W} (d : decode cc pc = .ok (.iastore, 1)) (j : Nat) (ha : ws[j]? = some (a, .inl (cA, N, .inl f))) (ht : tys[t0]? = some (cA, .int)) (x : Nat) (hi : i = nI x) (hx1 : x < N) (hN : N < 2 ^ 31) (hw : ws.set j (a, .inl (cA, N, .inl (upd f x v))) = ws1) (k : Z ws1 L (pc + 1) st) : Z ws L pc (.int v :: .int i :: .ref a :: st) := by
  obtain ⟨p, e, s, m, args, below, meth, c, A, nc, ns, Q, ⟨hx, hb, hml, hown, hts, hK, hr, hlk⟩, ⟨hnc, hns⟩, hQ, rfl⟩ := E
  subst hi
  subst hw
  have e1 : (nI x).toNatClampNeg = x := nI_clamp (Nat.lt_trans hx1 hN)
  exact fun H locs ls hP hD hS hl => va_iast hx hb hK hP hD hS j t0 ha ht (vp_in_nI hx1 hN) d (by rw [e1]; exact fun H1 locs1 hP1 hD1 hS1 => k H1 locs1 ls hP1 hD1 hS1 hl)
theorem zd_aald (E : zd_E Z l D cl tys cc nL own Ts R ret post) {a t0 N b : Nat} {cA : ClassId} {f : Nat → Option Nat} {i : Int32} {ty : FieldType} (d : decode cc pc = .ok (.aaload, 1)) (j : Nat) (ha : ws[j]? = some (a, .inl (cA, N, .inr (.inr (.inr (.inr f)))))) (ht : tys[t0]? = some (cA, ty)) (hty : ty.isReference = true) (x : Nat) (hi : i = nI x) (hx1 : x < N) (hN : N < 2 ^ 31) (hf : f x = some b) (k : Z ws L (pc + 1) (.ref b :: st)) : Z ws L pc (.int i :: .ref a :: st) := by
  obtain ⟨p, e, s, m, args, below, meth, c, A, nc, ns, Q, ⟨hx, hb, hml, hown, hts, hK, hr, hlk⟩, ⟨hnc, hns⟩, hQ, rfl⟩ := E
  subst hi
  have e1 : (nI x).toNatClampNeg = x := nI_clamp (Nat.lt_trans hx1 hN)
  have hin : vp_in (nI x) N := vp_in_nI hx1 hN
  have hlt : (nI x).toNatClampNeg < N := by rw [e1]; exact hx1
  exact fun H locs ls hP hD hS hl => W.aald (v := .ref b) (ty := ty) hx hb (hP j _ ha) ((hK.2 t0 _ ht).1 N (fun q => va_rf (f q))) hty (fun q => by cases q) (by show ¬ (nI x < 0 ∨ (arrV _ _ _).slots.size ≤ _); rw [arrV_size]; exact hin) (by show (arrV _ _ _).slots[_]? = _; rw [arrV_read _ _ hlt, e1, hf]; rfl) rfl rfl d (k H locs ls hP hD hS hl)
theorem zd_alen (E : zd_E Z l D cl tys cc nL own Ts R ret post) {a t0 : Nat} {cA : ClassId} {y : vp_A} {ty : FieldType} {v : Int32} (d : decode cc pc = .ok (.arraylength, 1)) (j : Nat) (ha : ws[j]? = some (a, .inl (cA, y))) (ht : tys[t0]? = some (cA, ty)) (hv : Int32.ofNat y.1 = v) (k : Z ws L (pc + 1) (.int v :: st)) : Z ws L pc (.ref a :: st) := by
  obtain ⟨p, e, s, m, args, below, meth, c, A, nc, ns, Q, ⟨hx, hb, hml, hown, hts, hK, hr, hlk⟩, ⟨hnc, hns⟩, hQ, rfl⟩ := E
  exact fun H locs ls hP hD hS hl => va_alen hx hb hK hP j t0 ha ht hv d (k H locs ls hP hD hS hl)
theorem zd_iret (E : zd_E Z l D cl tys cc nL own Ts R (some .int) post) {v : Int32} (d : decode cc pc = .ok (.ireturn, 1)) (h : post (some (.int v)) ws) : Z ws L pc [.int v] := by
  obtain ⟨p, e, s, m, args, below, meth, c, A, nc, ns, Q, ⟨hx, hb, hml, hown, hts, hK, hr, hlk⟩, ⟨hnc, hns⟩, hQ, rfl⟩ := E
  exact fun H locs ls hP hD hS hl => zd_imp hQ (W.iret (v := v) hx hb hr (fun t ht hW => ⟨⟨some (.int v), ws, rfl, h, by rw [ht]; exact hP, hD, va_K.moved hW.alike hK⟩, hS.F ht⟩) hS.2.2 d hlk)
theorem zd_zret (E : zd_E Z l D cl tys cc nL own Ts R (some .boolean) post) {v : Int32} (d : decode cc pc = .ok (.ireturn, 1)) (hn : narrow .boolean (.int v) = .int v) (h : post (some (.int v)) ws) : Z ws L pc [.int v] := by
  obtain ⟨p, e, s, m, args, below, meth, c, A, nc, ns, Q, ⟨hx, hb, hml, hown, hts, hK, hr, hlk⟩, ⟨hnc, hns⟩, hQ, rfl⟩ := E
  exact fun H locs ls hP hD hS hl => zd_imp hQ (W.zret (v := v) hx hb hr hn (fun t ht hW => ⟨⟨some (.int v), ws, rfl, h, by rw [ht]; exact hP, hD, va_K.moved hW.alike hK⟩, hS.F ht⟩) hS.2.2 d hlk)
theorem zd_vret (E : zd_E Z l D cl tys cc nL own Ts R none post) (d : decode cc pc = .ok (.return_, 1)) (h : post none ws) : Z ws L pc [] := by
  obtain ⟨p, e, s, m, args, below, meth, c, A, nc, ns, Q, ⟨hx, hb, hml, hown, hts, hK, hr, hlk⟩, ⟨hnc, hns⟩, hQ, rfl⟩ := E
  exact fun H locs ls hP hD hS hl => zd_imp hQ (W.vret hx hb hr (fun t ht hW => ⟨⟨none, ws, rfl, h, by rw [ht]; exact hP, hD, va_K.moved hW.alike hK⟩, hS.F ht⟩) hS.2.2 d hlk)
theorem zd_less (E : zd_E Z l D cl tys cc nL own Ts R ret post) {L' : List (Option Value)} (hl0 : zd_le L' L) (k : Z ws L' pc st) : Z ws L pc st := by
  obtain ⟨p, e, s, m, args, below, meth, c, A, nc, ns, Q, ⟨hx, hb, hml, hown, hts, hK, hr, hlk⟩, ⟨hnc, hns⟩, hQ, rfl⟩ := E
  exact fun H locs ls hP hD hS hl => k H locs ls hP hD hS (hl.less hl0)
theorem zd_mmax (E : zd_E Z l D cl tys cc nL own Ts R ret post) {index : Nat} {x y : Int32} (d : decode cc pc = .ok (.invokestatic index, 3)) (h1 : Cond.methodLink own index Lib.Math.max.name ∈ Ts) (h2 : Cond.static Lib.Math.max.name ∈ Ts) (h3 : Cond.initialized "java/lang/Math" ∈ Ts) (h4 : Cond.code Lib.Math.max.name Lib.Math.max.code 2 (some .int) ∈ Ts) (hR : 1 ≤ R.frames ∧ 21 ≤ R.locals) (hW : (st.map fun v => v.category).sum ≤ 8) (k : Z ws L (pc + 3) (.int (if x < y then y else x) :: st)) : Z ws L pc (.int y :: .int x :: st) := by
  obtain ⟨p, e, s, m, args, below, meth, c, A, nc, ns, Q, ⟨hx, hb, hml, hown, hts, hK, hr, hlk⟩, ⟨hnc, hns⟩, hQ, rfl⟩ := E
  exact fun H locs ls hP hD hS hl => va_mmax hx hb (hml.trans hl.1.symm) hown (hts _ h1) (hts _ h2) (hts _ h3) (hts _ h4) hR.1 (by omega) hnc hns d (k H locs ls hP hD hS hl)
theorem zd_mmin (E : zd_E Z l D cl tys cc nL own Ts R ret post) {index : Nat} {x y : Int32} (d : decode cc pc = .ok (.invokestatic index, 3)) (h1 : Cond.methodLink own index Lib.Math.min.name ∈ Ts) (h2 : Cond.static Lib.Math.min.name ∈ Ts) (h3 : Cond.initialized "java/lang/Math" ∈ Ts) (h4 : Cond.code Lib.Math.min.name Lib.Math.min.code 2 (some .int) ∈ Ts) (hR : 1 ≤ R.frames ∧ 21 ≤ R.locals) (hW : (st.map fun v => v.category).sum ≤ 8) (k : Z ws L (pc + 3) (.int (if y < x then y else x) :: st)) : Z ws L pc (.int y :: .int x :: st) := by
  obtain ⟨p, e, s, m, args, below, meth, c, A, nc, ns, Q, ⟨hx, hb, hml, hown, hts, hK, hr, hlk⟩, ⟨hnc, hns⟩, hQ, rfl⟩ := E
  exact fun H locs ls hP hD hS hl => va_mmin hx hb (hml.trans hl.1.symm) hown (hts _ h1) (hts _ h2) (hts _ h3) (hts _ h4) hR.1 (by omega) hnc hns d (k H locs ls hP hD hS hl)
theorem zd_run {p : Program} {e : Env} {s : State} {m : MethodId} {args : Array Value} {below : List Frame} {meth : Method} {c : Code} {A : Nat → Prop} {H : Heap} {locs : List Loc} {ls : Array Slot} {st0 : List Value} {a : Array Value} {post1 : Option Value → va_W → Prop} {Q : State → Prop} {nc ns mc ms : Nat}
    (hr : va_Run p l e R s m args below meth c H locs nc ns mc ms (F0 m pc ls st0) st (zd_Q D cl tys (zd_A ws) post1 a) (zd_A ws)) (hD : va_D A ws) (hS : va_S A s.heap H locs)
    (kk : ∀ (v : Option Value) (ws1 : va_W) (H1 : Heap) (locs1 : List Loc), post1 v ws1 → va_P D cl ws1 H1 → va_D A ws1 → va_S A s.heap H1 locs1 → W p l e R s m args below meth c H1 locs1 (nc + mc) (ns + ms) Q (F0 m (pc + 3) ls (v.toList ++ st))) : W p l e R s m args below meth c H locs nc ns Q (F0 m pc ls st0) := by
  intro T hT X
  obtain ⟨v, st₀, t, T', L1, h0, X', hL, e1, e2, ⟨⟨v1, ws1, hv, hp, hPw, hDw, hKw⟩, hz, hk⟩, go⟩ := hr T hT X
  cases hv
  rw [h0] at hz hk
  have hAA : ∀ q, zd_A ws q → A q := fun q h => by
    obtain ⟨k, e, hk⟩ := h
    exact hD.2 k _ hk
  obtain ⟨t2, a1, b1⟩ := kk v ws1 T'.heap (locs ++ L1) hp (by rw [e1]; exact hPw) (hDw.weaken (fun k q _ hq => hAA _ hq))
    ⟨Nat.le_trans hS.1 (by rw [e1]; exact hz), fun q h1 h2 => by rw [e1, hk q (Nat.lt_of_lt_of_le h1 hS.1) (fun z => h2 (hAA q z))]; exact hS.2.1 q h1 h2, fun q hq => by
      rcases List.mem_append.mp hq with h | h
      · exact hS.2.2 q h
      · exact hAA _ (hL q h)⟩ T' rfl X'
  exact ⟨t2, go t2 a1, b1⟩
theorem zd_blind {cl : List vw_C} {D : va_G} {tys : List (ClassId × FieldType)} {av : List Value} {ws : va_W} {Ts : List Cond} : FrameBlind (va_Pc av (fun U => va_P D cl ws U.heap ∧ va_K D cl tys U ∧ va_D (fun _ => True) ws ∧ zd_N Ts U)) := fun a U g mk q => by
  obtain ⟨q0, qP, qK, qD, qN⟩ := q
  exact ⟨q0, qP, va_K.moved (u := U) (U := U.calling g mk a) (Vm.Alike.refl U.vm) qK, qD, zd_N.same (s := U) (U := U.calling g mk a) rfl qN⟩
theorem zd_at {s : State} {H : Heap} {cl : List vw_C} {D : va_G} {tys : List (ClassId × FieldType)} {av : List Value} {ws : va_W} {A : Nat → Prop} {args : Array Value} {Ts : List Cond} (hts : ∀ w ∈ Ts, w.before args s = true) (hP : va_P D cl ws H) (hK : va_K D cl tys s) (hD : va_D A ws) : ∀ U : State, U.heap = H → s.WarmedH U.vm → va_Pc av (fun U => va_P D cl ws U.heap ∧ va_K D cl tys U ∧ va_D (fun _ => True) ws ∧ zd_N Ts U) av.toArray U := fun U hU hW =>
  ⟨rfl, by rw [hU]; exact hP, va_K.moved hW.alike hK, hD.weaken (fun _ _ _ _ => trivial), zd_N.warm hW (fun w hw hn => zd_nof hn (hts w hw))⟩
theorem zd_good {Ts : List Cond} {y : MethodName} {bytes : ByteArray} {maxL : Nat} {r : Option FieldType} (h : Cond.code y bytes maxL r ∈ Ts) : GoodIn Ts (zd_wy y bytes maxL r Ts) := by
  intro w hw
  rcases List.mem_cons.mp hw with rfl | hw
  · exact ⟨h, good_of_word rfl⟩
  · obtain ⟨h1, h2⟩ := List.mem_filter.mp hw
    exact ⟨h1, good_of_word h2⟩
theorem zd_callS {dd : Nat} (E : zd_E Z l D cl tys cc nL own Ts (zd_rm dd) ret post) {index maxL n da : Nat} {y : MethodName} {bytes : ByteArray} {r1 : Option FieldType} {av st0 : List Value} {post1 : Option Value → va_W → Prop} (d : decode cc pc = .ok (.invokestatic index, 3)) (F : zd_C Ts own index y bytes maxL r1 n) (hst : st0 = av.reverse ++ st) (hstat : Cond.static y ∈ Ts) (C : zd_Ct l D cl tys Ts y bytes maxL r1 (zd_rm da) av ws post1) (hd : da + 1 ≤ dd) (hn : av.length = n) (hW : (st.map fun v => v.category).sum ≤ 8) (kk : ∀ (v : Option Value) (ws1 : va_W), post1 v ws1 → Z ws1 L (pc + 3) (v.toList ++ st)) : Z ws L pc st0 := by
  obtain ⟨p, e, s, m, args, below, meth, c, A, nc, ns, Q, ⟨hx, hb, hml, hown, hts, hK, hr, hlk⟩, ⟨hnc, hns⟩, hQ, rfl⟩ := E
  obtain ⟨hcode, hini, hmh, hpar, hmx, hlink | ⟨host, hlink⟩⟩ := F
  · exact fun H locs ls hP hD hS hl => zd_run (va_runS (As := av) (rest := st) ⟨hx, hb, hml, hown, hts⟩ C ⟨callB_of n hts (zd_good hcode) rfl rfl rfl (hts _ hini) (hts _ hlink) ⟨hmh.1, hmh.2, hpar⟩ (show (zd_rm da).frames + 1 ≤ (zd_rm dd).frames ∧ 8 + (maxL + 11) + (zd_rm da).locals ≤ (zd_rm dd).locals from ⟨hd, by show 8 + (maxL + 11) + 40 * da ≤ 40 * dd; omega⟩), hts _ hstat⟩ ⟨zd_blind, zd_at hts hP hK hD⟩ rfl hn hl.1 hst (lv_room hW) d ⟨hnc, hns⟩) hD hS (fun v ws1 H1 locs1 hp hP1 hD1 hS1 => kk v ws1 hp H1 locs1 ls hP1 hD1 hS1 hl)
  · exact fun H locs ls hP hD hS hl => zd_run (va_runSN (As := av) (rest := st) ⟨hx, hb, hml, hown, hts⟩ C ⟨va_cnB n hts (zd_good hcode) rfl rfl rfl (va_Nw.of rfl (hts _ hlink)) (hts _ hini) ⟨hmh.1, hmh.2, hpar⟩ (show (zd_rm da).frames + 1 ≤ (zd_rm dd).frames ∧ 8 + (maxL + 11) + (zd_rm da).locals ≤ (zd_rm dd).locals from ⟨hd, by show 8 + (maxL + 11) + 40 * da ≤ 40 * dd; omega⟩), hts _ hstat, trivial⟩ ⟨zd_blind, zd_at hts hP hK hD⟩ rfl hn hl.1 hst (lv_room hW) d ⟨hnc, hns⟩) hD hS (fun v ws1 H1 locs1 hp hP1 hD1 hS1 => kk v ws1 hp H1 locs1 ls hP1 hD1 hS1 hl)
theorem zd_callV {dd : Nat} (E : zd_E Z l D cl tys cc nL own Ts (zd_rm dd) ret post) {ci b : Nat} {T1 : u_T} {N1 : Nat} {fs : List Value} {index maxL n da : Nat} {y : MethodName} {bytes : ByteArray} {r1 : Option FieldType} {av st0 : List Value} {post1 : Option Value → va_W → Prop} (d : decode cc pc = .ok (.invokevirtual index, 3)) (F : zd_C Ts own index y bytes maxL r1 n) (hst : st0 = av.reverse ++ .ref b :: st) (hinst : Cond.instanceMethod y ∈ Ts) (hsel : Cond.selects y.cls y y ∈ Ts) (j : Nat) (he : ws[j]? = some (b, .inr (ci, fs))) (hc : cl[ci]? = some (y.cls, T1, N1)) (C : zd_Ct l D cl tys Ts y bytes maxL r1 (zd_rm da) (.ref b :: av) ws post1) (hd : da + 1 ≤ dd) (hn : av.length = n) (hW : (st.map fun v => v.category).sum ≤ 8) (kk : ∀ (v : Option Value) (ws1 : va_W), post1 v ws1 → Z ws1 L (pc + 3) (v.toList ++ st)) : Z ws L pc st0 := by
  obtain ⟨p, e, s, m, args, below, meth, c, A, nc, ns, Q, ⟨hx, hb, hml, hown, hts, hK, hr, hlk⟩, ⟨hnc, hns⟩, hQ, rfl⟩ := E
  obtain ⟨hcode, hini, hmh, hpar, hmx, hlink | ⟨host, hlink⟩⟩ := F
  · exact fun H locs ls hP hD hS hl => zd_run (va_runV (As := av) (rest := st) (C := y.cls) ⟨hx, hb, hml, hown, hts⟩ C ⟨callB_of n hts (zd_good hcode) rfl rfl rfl (hts _ hini) (hts _ hlink) ⟨hmh.1, hmh.2, hpar⟩ (show (zd_rm da).frames + 1 ≤ (zd_rm dd).frames ∧ 8 + (maxL + 11) + (zd_rm da).locals ≤ (zd_rm dd).locals from ⟨hd, by show 8 + (maxL + 11) + 40 * da ≤ 40 * dd; omega⟩), hts _ hinst, hts _ hsel⟩ ⟨zd_blind, va_recv hK hP hc he, zd_at hts hP hK hD⟩ rfl hn hl.1 hst (lv_room hW) d ⟨hnc, hns⟩) hD hS (fun v ws1 H1 locs1 hp hP1 hD1 hS1 => kk v ws1 hp H1 locs1 ls hP1 hD1 hS1 hl)
  · exact fun H locs ls hP hD hS hl => zd_run (va_runVN (As := av) (rest := st) (C := y.cls) ⟨hx, hb, hml, hown, hts⟩ C ⟨va_cnB n hts (zd_good hcode) rfl rfl rfl (va_Nw.of rfl (hts _ hlink)) (hts _ hini) ⟨hmh.1, hmh.2, hpar⟩ (show (zd_rm da).frames + 1 ≤ (zd_rm dd).frames ∧ 8 + (maxL + 11) + (zd_rm da).locals ≤ (zd_rm dd).locals from ⟨hd, by show 8 + (maxL + 11) + 40 * da ≤ 40 * dd; omega⟩), hts _ hinst, hts _ hsel⟩ ⟨zd_blind, va_recv hK hP hc he, zd_at hts hP hK hD⟩ rfl hn hl.1 hst (lv_room hW) d ⟨hnc, hns⟩) hD hS (fun v ws1 H1 locs1 hp hP1 hD1 hS1 => kk v ws1 hp H1 locs1 ls hP1 hD1 hS1 hl)
theorem zd_nc_eq (E : zd_E Z l D cl tys cc nL own Ts R ret post) {a b : Nat} {off : Int} (tgt : Nat) (d : decode cc pc = .ok (.if_icmp .eq off, 3)) (ht : (pc : Int) + off = (tgt : Int)) (ha : a < 2 ^ 31) (hb : b < 2 ^ 31) (kt : a = b → Z ws L tgt st) (kf : a ≠ b → Z ws L (pc + 3) st) : Z ws L pc (.int (nI b) :: .int (nI a) :: st) :=
  zd_ic_eq E tgt d ht (fun h => kt ((nI_eq ha hb).mp h)) (fun h => kf (fun z => h ((nI_eq ha hb).mpr z)))
theorem zd_nc_ne (E : zd_E Z l D cl tys cc nL own Ts R ret post) {a b : Nat} {off : Int} (tgt : Nat) (d : decode cc pc = .ok (.if_icmp .ne off, 3)) (ht : (pc : Int) + off = (tgt : Int)) (ha : a < 2 ^ 31) (hb : b < 2 ^ 31) (kt : a ≠ b → Z ws L tgt st) (kf : a = b → Z ws L (pc + 3) st) : Z ws L pc (.int (nI b) :: .int (nI a) :: st) :=
  zd_ic_ne E tgt d ht (fun h => kt (fun z => h ((nI_eq ha hb).mpr z))) (fun h => kf (Classical.byContradiction fun z => h (fun y => z ((nI_eq ha hb).mp y))))
theorem zd_nc_lt (E : zd_E Z l D cl tys cc nL own Ts R ret post) {a b : Nat} {off : Int} (tgt : Nat) (d : decode cc pc = .ok (.if_icmp .lt off, 3)) (ht : (pc : Int) + off = (tgt : Int)) (ha : a < 2 ^ 31) (hb : b < 2 ^ 31) (kt : a < b → Z ws L tgt st) (kf : b ≤ a → Z ws L (pc + 3) st) : Z ws L pc (.int (nI b) :: .int (nI a) :: st) :=
  zd_ic_lt E tgt d ht (fun h => kt ((nI_ltI ha hb).mp h)) (fun h => kf (Nat.not_lt.mp (fun z => h ((nI_ltI ha hb).mpr z))))
theorem zd_nc_ge (E : zd_E Z l D cl tys cc nL own Ts R ret post) {a b : Nat} {off : Int} (tgt : Nat) (d : decode cc pc = .ok (.if_icmp .ge off, 3)) (ht : (pc : Int) + off = (tgt : Int)) (ha : a < 2 ^ 31) (hb : b < 2 ^ 31) (kt : b ≤ a → Z ws L tgt st) (kf : a < b → Z ws L (pc + 3) st) : Z ws L pc (.int (nI b) :: .int (nI a) :: st) :=
  zd_ic_ge E tgt d ht (fun h => kt ((nI_leI hb ha).mp h)) (fun h => kf (Nat.not_le.mp (fun z => h ((nI_leI hb ha).mpr z))))
theorem zd_nc_gt (E : zd_E Z l D cl tys cc nL own Ts R ret post) {a b : Nat} {off : Int} (tgt : Nat) (d : decode cc pc = .ok (.if_icmp .gt off, 3)) (ht : (pc : Int) + off = (tgt : Int)) (ha : a < 2 ^ 31) (hb : b < 2 ^ 31) (kt : b < a → Z ws L tgt st) (kf : a ≤ b → Z ws L (pc + 3) st) : Z ws L pc (.int (nI b) :: .int (nI a) :: st) :=
  zd_ic_gt E tgt d ht (fun h => kt ((nI_ltI hb ha).mp h)) (fun h => kf (Nat.not_lt.mp (fun z => h ((nI_ltI hb ha).mpr z))))
theorem zd_nc_le (E : zd_E Z l D cl tys cc nL own Ts R ret post) {a b : Nat} {off : Int} (tgt : Nat) (d : decode cc pc = .ok (.if_icmp .le off, 3)) (ht : (pc : Int) + off = (tgt : Int)) (ha : a < 2 ^ 31) (hb : b < 2 ^ 31) (kt : a ≤ b → Z ws L tgt st) (kf : b < a → Z ws L (pc + 3) st) : Z ws L pc (.int (nI b) :: .int (nI a) :: st) :=
  zd_ic_le E tgt d ht (fun h => kt ((nI_leI ha hb).mp h)) (fun h => kf (Nat.not_le.mp (fun z => h ((nI_leI ha hb).mpr z))))
theorem zd_bf_eq (E : zd_E Z l D cl tys cc nL own Ts R ret post) {P : Prop} [Decidable P] {off : Int} (tgt : Nat) (d : decode cc pc = .ok (.ifCond .eq off, 3)) (ht : (pc : Int) + off = (tgt : Int)) (kt : ¬ P → Z ws L tgt st) (kf : P → Z ws L (pc + 3) st) : Z ws L pc (.int (nI (if P then 1 else 0)) :: st) := by
  refine zd_if_eq E tgt d ht (fun h => ?_) (fun h => ?_)
  · by_cases p : P
    · rw [if_pos p] at h; first | exact kt p | exact absurd h (by decide)
    · rw [if_neg p] at h; first | exact kt p | exact absurd h (by decide)
  · by_cases p : P
    · rw [if_pos p] at h; first | exact kf p | exact absurd h (by decide)
    · rw [if_neg p] at h; first | exact kf p | exact absurd h (by decide)
theorem zd_bf_ne (E : zd_E Z l D cl tys cc nL own Ts R ret post) {P : Prop} [Decidable P] {off : Int} (tgt : Nat) (d : decode cc pc = .ok (.ifCond .ne off, 3)) (ht : (pc : Int) + off = (tgt : Int)) (kt : P → Z ws L tgt st) (kf : ¬ P → Z ws L (pc + 3) st) : Z ws L pc (.int (nI (if P then 1 else 0)) :: st) := by
  refine zd_if_ne E tgt d ht (fun h => ?_) (fun h => ?_)
  · by_cases p : P
    · rw [if_pos p] at h; first | exact kt p | exact absurd h (by decide)
    · rw [if_neg p] at h; first | exact kt p | exact absurd h (by decide)
  · by_cases p : P
    · rw [if_pos p] at h; first | exact kf p | exact absurd h (by decide)
    · rw [if_neg p] at h; first | exact kf p | exact absurd h (by decide)
end ZD
