/-! Walks that write nothing: the heap is the one at the entry. -/
def zr_W (p : Program) (l : Launch) (e : Env) (R : Room) (s : State) (m : MethodId) (args : Array Value) (below : List Frame) (meth : Method) (c : Code) (D : va_G) (cl : List vw_C) (nL : Nat) (Q : State → Prop) (ws : va_W) (L : List (Option Value)) (pc : Nat) (st : List Value) : Prop :=
  ∀ (H : Heap) (locs : List Loc) (ls : Array Slot), va_P D cl ws H → va_D (fun _ => True) ws → (H = s.heap ∧ locs = []) → zd_L ls nL L → W p l e R s m args below meth c H locs 0 0 Q (F0 m pc ls st)
def zr_Q (post : Option Value → va_W → Prop) : Array Value → State → Outcome → State → Prop := fun _ st oc t => ∃ (v : Option Value) (ws : va_W), oc = .returned v ∧ post v ws ∧ t.heap = st.heap
def zr_E (Z : va_W → List (Option Value) → Nat → List Value → Prop) (l : Launch) (D : va_G) (cl : List vw_C) (tys : List (ClassId × FieldType)) (cc : ByteArray) (nL : Nat) (own : String) (Ts : List Cond) (R : Room) (ret : Option FieldType) (post : Option Value → va_W → Prop) : Prop :=
  ∃ (p : Program) (e : Env) (s : State) (m : MethodId) (args : Array Value) (below : List Frame) (meth : Method) (c : Code) (Q : State → Prop),
    zd_B p s m args meth c D cl tys cc nL own Ts ret ∧ (∀ t, MQ below (zr_Q post) args s 0 0 (fun _ => False) t → Q t) ∧
    Z = zr_W p l e R s m args below meth c D cl nL Q
/-- a contract that writes nothing -/
def zr_Ct (l : Launch) (D : va_G) (cl : List vw_C) (tys : List (ClassId × FieldType)) (Ts : List Cond) (y : MethodName) (cc : ByteArray) (nL : Nat) (ret : Option FieldType) (R : Room) (av : List Value) (ws : va_W) (post : Option Value → va_W → Prop) : Prop :=
  Met l y (zd_wy y cc nL ret Ts) R (va_Pc av (fun U => va_P D cl ws U.heap ∧ va_K D cl tys U ∧ va_D (fun _ => True) ws ∧ zd_N Ts U)) (zr_Q post) 0 0 (fun _ => False)
theorem zr_met {l : Launch} {D : va_G} {cl : List vw_C} {tys : List (ClassId × FieldType)} {y : MethodName} {cc : ByteArray} {nL : Nat} {Ts : List Cond} {R : Room} {ret : Option FieldType} {av : List Value} {ws : va_W} {post : Option Value → va_W → Prop}
    (G : zd_G Ts) (hy : plainName y.cls = true) (hc0 : av.all (fun v => v.category == 1) = true) (hn : (lg_sl av).length ≤ nL)
    (body : ∀ Z, zr_E Z l D cl tys cc nL y.cls Ts R ret post → Z ws (av.map some ++ List.replicate (nL - av.length) none) 0 []) : zr_Ct l D cl tys Ts y cc nL ret R av ws post := by
  have hc : ∀ v ∈ av, v.category = 1 := fun v hv => by simpa using List.all_eq_true.mp hc0 v hv
  refine Met.ofW (cc := cc) (maxL := nL) (ret := ret) hy rfl ?_
  intro p e s m args below meth c s₁ B hml hv
  obtain ⟨rfl, hP, hK, hD0, hN0⟩ := hv
  have hl := lv_entry av (n := nL) hn
  rw [lg_entry_eq]
  have hown : s.vm.findClass y.cls = some m.cls := findClass_of_methodNamed B.named
  have hts := atoms_spec (ws := zd_wy y cc nL ret Ts) B.pre
  refine body _ ⟨p, e, s, m, av.toArray, below, meth, c, _, ⟨B.exec, B.bytes, hml, hown, fun w hw => (G w hw).elim (fun g => hts w (List.mem_cons_of_mem _ (List.mem_filter.mpr ⟨hw, g⟩))) (fun g => zd_nuse g (hN0 w hw g)), hK, B.returns, B.notSynchronized⟩, fun _ h => h, rfl⟩ s.heap [] _ hP hD0 ⟨rfl, rfl⟩ ?_
  refine ⟨hl.1, hl.2.1, fun i v hi => ?_⟩
  obtain ⟨h1, h2⟩ := zd_init av _ 0 i v hc hi
  rw [Nat.zero_add] at h1
  exact ⟨hc v h2, hl.2.2 (i, v) h1⟩
section ZR
variable {Z : va_W → List (Option Value) → Nat → List Value → Prop} {l : Launch} {D : va_G} {cl : List vw_C} {tys : List (ClassId × FieldType)} {cc : ByteArray} {nL : Nat} {own : String} {Ts : List Cond} {R : Room} {ret : Option FieldType} {post : Option Value → va_W → Prop}
variable {ws : va_W} {L : List (Option Value)} {pc : Nat} {st : List Value}
theorem zr_iconst (E : zr_E Z l D cl tys cc nL own Ts R ret post) {n : Int} {v : Int32} (d : decode cc pc = .ok (.iconst n, 1)) (hv : Int32.ofInt n = v) (k : Z ws L (pc + 1) (.int v :: st)) : Z ws L pc st := by
  obtain ⟨p, e, s, m, args, below, meth, c, Q, ⟨hx, hb, hml, hown, hts, hK, hr, hlk⟩, hQ, rfl⟩ := E
  exact fun H locs ls hP hD hS hl => lv_iconst hx hb d hv (k H locs ls hP hD hS hl)
theorem zr_bipush (E : zr_E Z l D cl tys cc nL own Ts R ret post) {n : Int} {v : Int32} (d : decode cc pc = .ok (.bipush n, 2)) (hv : (Int8.ofInt n).toInt32 = v) (k : Z ws L (pc + 2) (.int v :: st)) : Z ws L pc st := by
  obtain ⟨p, e, s, m, args, below, meth, c, Q, ⟨hx, hb, hml, hown, hts, hK, hr, hlk⟩, hQ, rfl⟩ := E
  exact fun H locs ls hP hD hS hl => lv_bipush hx hb d hv (k H locs ls hP hD hS hl)
theorem zr_sipush (E : zr_E Z l D cl tys cc nL own Ts R ret post) {n : Int} {v : Int32} (d : decode cc pc = .ok (.sipush n, 3)) (hv : (Int16.ofInt n).toInt32 = v) (k : Z ws L (pc + 3) (.int v :: st)) : Z ws L pc st := by
  obtain ⟨p, e, s, m, args, below, meth, c, Q, ⟨hx, hb, hml, hown, hts, hK, hr, hlk⟩, hQ, rfl⟩ := E
  exact fun H locs ls hP hD hS hl => lv_sipush hx hb d hv (k H locs ls hP hD hS hl)
theorem zr_ldc (E : zr_E Z l D cl tys cc nL own Ts R ret post) {index : Nat} {v : Int32} (d : decode cc pc = .ok (.ldc index, 2)) (hc : Cond.constant own index v ∈ Ts) (k : Z ws L (pc + 2) (.int v :: st)) : Z ws L pc st := by
  obtain ⟨p, e, s, m, args, below, meth, c, Q, ⟨hx, hb, hml, hown, hts, hK, hr, hlk⟩, hQ, rfl⟩ := E
  exact fun H locs ls hP hD hS hl => lv_ldc hx hb hown (hts _ hc) d (k H locs ls hP hD hS hl)
theorem zr_iload_n (E : zr_E Z l D cl tys cc nL own Ts R ret post) {i : Fin 4} {x : Int32} (d : decode cc pc = .ok (.iload_n i, 1)) (h : L[(i : Nat)]? = some (some (.int x))) (k : Z ws L (pc + 1) (.int x :: st)) : Z ws L pc st := by
  obtain ⟨p, e, s, m, args, below, meth, c, Q, ⟨hx, hb, hml, hown, hts, hK, hr, hlk⟩, hQ, rfl⟩ := E
  exact fun H locs ls hP hD hS hl => lv_iload_n hx hb d rfl (hl.at h) (k H locs ls hP hD hS hl)
theorem zr_iload (E : zr_E Z l D cl tys cc nL own Ts R ret post) {i : Nat} {x : Int32} (d : decode cc pc = .ok (.iload i, 2)) (h : L[i]? = some (some (.int x))) (k : Z ws L (pc + 2) (.int x :: st)) : Z ws L pc st := by
  obtain ⟨p, e, s, m, args, below, meth, c, Q, ⟨hx, hb, hml, hown, hts, hK, hr, hlk⟩, hQ, rfl⟩ := E
  exact fun H locs ls hP hD hS hl => lv_iload hx hb d (hl.at h) (k H locs ls hP hD hS hl)
theorem zr_istore_n (E : zr_E Z l D cl tys cc nL own Ts R ret post) {i : Fin 4} {x : Int32} (d : decode cc pc = .ok (.istore_n i, 1)) (hn : (i : Nat) < nL) (k : Z ws (L.set i (some (.int x))) (pc + 1) st) : Z ws L pc (.int x :: st) := by
  obtain ⟨p, e, s, m, args, below, meth, c, Q, ⟨hx, hb, hml, hown, hts, hK, hr, hlk⟩, hQ, rfl⟩ := E
  exact fun H locs ls hP hD hS hl => lv_istore_n hx hb d rfl hl.has hn rfl (fun ls1 h1 => k H locs ls1 hP hD hS (hl.put rfl h1))
theorem zr_istore (E : zr_E Z l D cl tys cc nL own Ts R ret post) {i : Nat} {x : Int32} (d : decode cc pc = .ok (.istore i, 2)) (hn : i < nL) (k : Z ws (L.set i (some (.int x))) (pc + 2) st) : Z ws L pc (.int x :: st) := by
  obtain ⟨p, e, s, m, args, below, meth, c, Q, ⟨hx, hb, hml, hown, hts, hK, hr, hlk⟩, hQ, rfl⟩ := E
  exact fun H locs ls hP hD hS hl => lv_istore hx hb d hl.has hn rfl (fun ls1 h1 => k H locs ls1 hP hD hS (hl.put rfl h1))
theorem zr_aload_n (E : zr_E Z l D cl tys cc nL own Ts R ret post) {i : Fin 4} {x : Nat} (d : decode cc pc = .ok (.aload_n i, 1)) (h : L[(i : Nat)]? = some (some (.ref x))) (k : Z ws L (pc + 1) (.ref x :: st)) : Z ws L pc st := by
  obtain ⟨p, e, s, m, args, below, meth, c, Q, ⟨hx, hb, hml, hown, hts, hK, hr, hlk⟩, hQ, rfl⟩ := E
  exact fun H locs ls hP hD hS hl => lv_aload_n hx hb d rfl (hl.at h) (k H locs ls hP hD hS hl)
theorem zr_aload (E : zr_E Z l D cl tys cc nL own Ts R ret post) {i : Nat} {x : Nat} (d : decode cc pc = .ok (.aload i, 2)) (h : L[i]? = some (some (.ref x))) (k : Z ws L (pc + 2) (.ref x :: st)) : Z ws L pc st := by
  obtain ⟨p, e, s, m, args, below, meth, c, Q, ⟨hx, hb, hml, hown, hts, hK, hr, hlk⟩, hQ, rfl⟩ := E
  exact fun H locs ls hP hD hS hl => lv_aload hx hb d (hl.at h) (k H locs ls hP hD hS hl)
theorem zr_astore_n (E : zr_E Z l D cl tys cc nL own Ts R ret post) {i : Fin 4} {x : Nat} (d : decode cc pc = .ok (.astore_n i, 1)) (hn : (i : Nat) < nL) (k : Z ws (L.set i (some (.ref x))) (pc + 1) st) : Z ws L pc (.ref x :: st) := by
  obtain ⟨p, e, s, m, args, below, meth, c, Q, ⟨hx, hb, hml, hown, hts, hK, hr, hlk⟩, hQ, rfl⟩ := E
  exact fun H locs ls hP hD hS hl => lv_astore_n hx hb d rfl hl.has hn rfl (fun ls1 h1 => k H locs ls1 hP hD hS (hl.put rfl h1))
theorem zr_astore (E : zr_E Z l D cl tys cc nL own Ts R ret post) {i : Nat} {x : Nat} (d : decode cc pc = .ok (.astore i, 2)) (hn : i < nL) (k : Z ws (L.set i (some (.ref x))) (pc + 2) st) : Z ws L pc (.ref x :: st) := by
  obtain ⟨p, e, s, m, args, below, meth, c, Q, ⟨hx, hb, hml, hown, hts, hK, hr, hlk⟩, hQ, rfl⟩ := E
  exact fun H locs ls hP hD hS hl => lv_astore hx hb d hl.has hn rfl (fun ls1 h1 => k H locs ls1 hP hD hS (hl.put rfl h1))
theorem zr_iinc (E : zr_E Z l D cl tys cc nL own Ts R ret post) {i : Nat} {n : Int} {x v : Int32} (d : decode cc pc = .ok (.iinc i n, 3)) (h : L[i]? = some (some (.int x))) (hv : x + Int32.ofInt n = v) (hn : i < nL) (k : Z ws (L.set i (some (.int v))) (pc + 3) st) : Z ws L pc st := by
  obtain ⟨p, e, s, m, args, below, meth, c, Q, ⟨hx, hb, hml, hown, hts, hK, hr, hlk⟩, hQ, rfl⟩ := E
  intro H locs ls hP hD hS hl
  obtain ⟨k0, hk0⟩ := List.mem_iff_getElem?.mp (zd_pairs_mem.mpr h)
  exact lv_iinc hx hb d hl.has hk0 hv hn rfl (fun ls1 h1 => k H locs ls1 hP hD hS (hl.put rfl h1))
theorem zr_iadd (E : zr_E Z l D cl tys cc nL own Ts R ret post) {x y : Int32} (d : decode cc pc = .ok (.iadd, 1)) (k : Z ws L (pc + 1) (.int (x + y) :: st)) : Z ws L pc (.int y :: .int x :: st) := by
  obtain ⟨p, e, s, m, args, below, meth, c, Q, ⟨hx, hb, hml, hown, hts, hK, hr, hlk⟩, hQ, rfl⟩ := E
  exact fun H locs ls hP hD hS hl => lv_iadd hx hb d (k H locs ls hP hD hS hl)
theorem zr_isub (E : zr_E Z l D cl tys cc nL own Ts R ret post) {x y : Int32} (d : decode cc pc = .ok (.isub, 1)) (k : Z ws L (pc + 1) (.int (x - y) :: st)) : Z ws L pc (.int y :: .int x :: st) := by
  obtain ⟨p, e, s, m, args, below, meth, c, Q, ⟨hx, hb, hml, hown, hts, hK, hr, hlk⟩, hQ, rfl⟩ := E
  exact fun H locs ls hP hD hS hl => lv_isub hx hb d (k H locs ls hP hD hS hl)
theorem zr_imul (E : zr_E Z l D cl tys cc nL own Ts R ret post) {x y : Int32} (d : decode cc pc = .ok (.imul, 1)) (k : Z ws L (pc + 1) (.int (x * y) :: st)) : Z ws L pc (.int y :: .int x :: st) := by
  obtain ⟨p, e, s, m, args, below, meth, c, Q, ⟨hx, hb, hml, hown, hts, hK, hr, hlk⟩, hQ, rfl⟩ := E
  exact fun H locs ls hP hD hS hl => lv_imul hx hb d (k H locs ls hP hD hS hl)
theorem zr_iand (E : zr_E Z l D cl tys cc nL own Ts R ret post) {x y : Int32} (d : decode cc pc = .ok (.iand, 1)) (k : Z ws L (pc + 1) (.int (x &&& y) :: st)) : Z ws L pc (.int y :: .int x :: st) := by
  obtain ⟨p, e, s, m, args, below, meth, c, Q, ⟨hx, hb, hml, hown, hts, hK, hr, hlk⟩, hQ, rfl⟩ := E
  exact fun H locs ls hP hD hS hl => lv_iand hx hb d (k H locs ls hP hD hS hl)
theorem zr_ior (E : zr_E Z l D cl tys cc nL own Ts R ret post) {x y : Int32} (d : decode cc pc = .ok (.ior, 1)) (k : Z ws L (pc + 1) (.int (x ||| y) :: st)) : Z ws L pc (.int y :: .int x :: st) := by
  obtain ⟨p, e, s, m, args, below, meth, c, Q, ⟨hx, hb, hml, hown, hts, hK, hr, hlk⟩, hQ, rfl⟩ := E
  exact fun H locs ls hP hD hS hl => lv_ior hx hb d (k H locs ls hP hD hS hl)
theorem zr_ixor (E : zr_E Z l D cl tys cc nL own Ts R ret post) {x y : Int32} (d : decode cc pc = .ok (.ixor, 1)) (k : Z ws L (pc + 1) (.int (x ^^^ y) :: st)) : Z ws L pc (.int y :: .int x :: st) := by
  obtain ⟨p, e, s, m, args, below, meth, c, Q, ⟨hx, hb, hml, hown, hts, hK, hr, hlk⟩, hQ, rfl⟩ := E
  exact fun H locs ls hP hD hS hl => lv_ixor hx hb d (k H locs ls hP hD hS hl)
theorem zr_ishl (E : zr_E Z l D cl tys cc nL own Ts R ret post) {x y : Int32} (d : decode cc pc = .ok (.ishl, 1)) (k : Z ws L (pc + 1) (.int (x <<< (y &&& 31)) :: st)) : Z ws L pc (.int y :: .int x :: st) := by
  obtain ⟨p, e, s, m, args, below, meth, c, Q, ⟨hx, hb, hml, hown, hts, hK, hr, hlk⟩, hQ, rfl⟩ := E
  exact fun H locs ls hP hD hS hl => lv_ishl hx hb d (k H locs ls hP hD hS hl)
theorem zr_ishr (E : zr_E Z l D cl tys cc nL own Ts R ret post) {x y : Int32} (d : decode cc pc = .ok (.ishr, 1)) (k : Z ws L (pc + 1) (.int (x >>> (y &&& 31)) :: st)) : Z ws L pc (.int y :: .int x :: st) := by
  obtain ⟨p, e, s, m, args, below, meth, c, Q, ⟨hx, hb, hml, hown, hts, hK, hr, hlk⟩, hQ, rfl⟩ := E
  exact fun H locs ls hP hD hS hl => lv_ishr hx hb d (k H locs ls hP hD hS hl)
theorem zr_irem (E : zr_E Z l D cl tys cc nL own Ts R ret post) {x y : Int32} (d : decode cc pc = .ok (.irem, 1)) (hne : ¬ y = 0) (k : Z ws L (pc + 1) (.int (x - x / y * y) :: st)) : Z ws L pc (.int y :: .int x :: st) := by
  obtain ⟨p, e, s, m, args, below, meth, c, Q, ⟨hx, hb, hml, hown, hts, hK, hr, hlk⟩, hQ, rfl⟩ := E
  exact fun H locs ls hP hD hS hl => lv_irem hx hb d hne (k H locs ls hP hD hS hl)
theorem zr_dup (E : zr_E Z l D cl tys cc nL own Ts R ret post) {a : Value} (d : decode cc pc = .ok (.dup, 1)) (ha : a.category = 1) (k : Z ws L (pc + 1) (a :: a :: st)) : Z ws L pc (a :: st) := by
  obtain ⟨p, e, s, m, args, below, meth, c, Q, ⟨hx, hb, hml, hown, hts, hK, hr, hlk⟩, hQ, rfl⟩ := E
  exact fun H locs ls hP hD hS hl => lv_dup hx hb d ha (k H locs ls hP hD hS hl)
theorem zr_pop (E : zr_E Z l D cl tys cc nL own Ts R ret post) {a : Value} (d : decode cc pc = .ok (.pop, 1)) (ha : a.category = 1) (k : Z ws L (pc + 1) st) : Z ws L pc (a :: st) := by
  obtain ⟨p, e, s, m, args, below, meth, c, Q, ⟨hx, hb, hml, hown, hts, hK, hr, hlk⟩, hQ, rfl⟩ := E
  exact fun H locs ls hP hD hS hl => lv_pop hx hb d ha (k H locs ls hP hD hS hl)
theorem zr_dup_x1 (E : zr_E Z l D cl tys cc nL own Ts R ret post) {a b : Value} (d : decode cc pc = .ok (.dup_x1, 1)) (ha : a.category = 1) (hb1 : b.category = 1) (k : Z ws L (pc + 1) (a :: b :: a :: st)) : Z ws L pc (a :: b :: st) := by
  obtain ⟨p, e, s, m, args, below, meth, c, Q, ⟨hx, hb, hml, hown, hts, hK, hr, hlk⟩, hQ, rfl⟩ := E
  exact fun H locs ls hP hD hS hl => lv_dup_x1 hx hb d ha hb1 (k H locs ls hP hD hS hl)
theorem zr_dup_x2 (E : zr_E Z l D cl tys cc nL own Ts R ret post) {a b g : Value} (d : decode cc pc = .ok (.dup_x2, 1)) (ha : a.category = 1) (hb1 : b.category = 1) (hg : g.category = 1) (k : Z ws L (pc + 1) (a :: b :: g :: a :: st)) : Z ws L pc (a :: b :: g :: st) := by
  obtain ⟨p, e, s, m, args, below, meth, c, Q, ⟨hx, hb, hml, hown, hts, hK, hr, hlk⟩, hQ, rfl⟩ := E
  exact fun H locs ls hP hD hS hl => lv_dup_x2 hx hb d ha hb1 hg (k H locs ls hP hD hS hl)
theorem zr_dup2 (E : zr_E Z l D cl tys cc nL own Ts R ret post) {a b : Value} (d : decode cc pc = .ok (.dup2, 1)) (ha : a.category = 1) (hb1 : b.category = 1) (k : Z ws L (pc + 1) (a :: b :: a :: b :: st)) : Z ws L pc (a :: b :: st) := by
  obtain ⟨p, e, s, m, args, below, meth, c, Q, ⟨hx, hb, hml, hown, hts, hK, hr, hlk⟩, hQ, rfl⟩ := E
  exact fun H locs ls hP hD hS hl => lv_dup2_11 hx hb d ha hb1 (k H locs ls hP hD hS hl)
theorem zr_if_eq (E : zr_E Z l D cl tys cc nL own Ts R ret post) {x : Int32} {off : Int} (tgt : Nat) (d : decode cc pc = .ok (.ifCond .eq off, 3)) (ht : (pc : Int) + off = (tgt : Int)) (kt : x = 0 → Z ws L tgt st) (kf : ¬ (x = 0) → Z ws L (pc + 3) st) : Z ws L pc (.int x :: st) := by
  obtain ⟨p, e, s, m, args, below, meth, c, Q, ⟨hx, hb, hml, hown, hts, hK, hr, hlk⟩, hQ, rfl⟩ := E
  exact fun H locs ls hP hD hS hl => lv_if_eq hx hb d ht (fun h => kt (by first | exact h | simpa using h) H locs ls hP hD hS hl) (fun h => kf (by first | exact h | simpa using h) H locs ls hP hD hS hl)
theorem zr_ic_eq (E : zr_E Z l D cl tys cc nL own Ts R ret post) {x y : Int32} {off : Int} (tgt : Nat) (d : decode cc pc = .ok (.if_icmp .eq off, 3)) (ht : (pc : Int) + off = (tgt : Int)) (kt : x = y → Z ws L tgt st) (kf : ¬ (x = y) → Z ws L (pc + 3) st) : Z ws L pc (.int y :: .int x :: st) := by
  obtain ⟨p, e, s, m, args, below, meth, c, Q, ⟨hx, hb, hml, hown, hts, hK, hr, hlk⟩, hQ, rfl⟩ := E
  exact fun H locs ls hP hD hS hl => lv_icmp_eq hx hb d ht (fun h => kt (by first | exact h | simpa using h) H locs ls hP hD hS hl) (fun h => kf (by first | exact h | simpa using h) H locs ls hP hD hS hl)
theorem zr_if_ne (E : zr_E Z l D cl tys cc nL own Ts R ret post) {x : Int32} {off : Int} (tgt : Nat) (d : decode cc pc = .ok (.ifCond .ne off, 3)) (ht : (pc : Int) + off = (tgt : Int)) (kt : ¬ x = 0 → Z ws L tgt st) (kf : ¬ (¬ x = 0) → Z ws L (pc + 3) st) : Z ws L pc (.int x :: st) := by
  obtain ⟨p, e, s, m, args, below, meth, c, Q, ⟨hx, hb, hml, hown, hts, hK, hr, hlk⟩, hQ, rfl⟩ := E
  exact fun H locs ls hP hD hS hl => lv_if_ne hx hb d ht (fun h => kt (by first | exact h | simpa using h) H locs ls hP hD hS hl) (fun h => kf (by first | exact h | simpa using h) H locs ls hP hD hS hl)
theorem zr_ic_ne (E : zr_E Z l D cl tys cc nL own Ts R ret post) {x y : Int32} {off : Int} (tgt : Nat) (d : decode cc pc = .ok (.if_icmp .ne off, 3)) (ht : (pc : Int) + off = (tgt : Int)) (kt : ¬ x = y → Z ws L tgt st) (kf : ¬ (¬ x = y) → Z ws L (pc + 3) st) : Z ws L pc (.int y :: .int x :: st) := by
  obtain ⟨p, e, s, m, args, below, meth, c, Q, ⟨hx, hb, hml, hown, hts, hK, hr, hlk⟩, hQ, rfl⟩ := E
  exact fun H locs ls hP hD hS hl => lv_icmp_ne hx hb d ht (fun h => kt (by first | exact h | simpa using h) H locs ls hP hD hS hl) (fun h => kf (by first | exact h | simpa using h) H locs ls hP hD hS hl)
theorem zr_if_lt (E : zr_E Z l D cl tys cc nL own Ts R ret post) {x : Int32} {off : Int} (tgt : Nat) (d : decode cc pc = .ok (.ifCond .lt off, 3)) (ht : (pc : Int) + off = (tgt : Int)) (kt : x < 0 → Z ws L tgt st) (kf : ¬ (x < 0) → Z ws L (pc + 3) st) : Z ws L pc (.int x :: st) := by
  obtain ⟨p, e, s, m, args, below, meth, c, Q, ⟨hx, hb, hml, hown, hts, hK, hr, hlk⟩, hQ, rfl⟩ := E
  exact fun H locs ls hP hD hS hl => lv_if_lt hx hb d ht (fun h => kt (by first | exact h | simpa using h) H locs ls hP hD hS hl) (fun h => kf (by first | exact h | simpa using h) H locs ls hP hD hS hl)
theorem zr_ic_lt (E : zr_E Z l D cl tys cc nL own Ts R ret post) {x y : Int32} {off : Int} (tgt : Nat) (d : decode cc pc = .ok (.if_icmp .lt off, 3)) (ht : (pc : Int) + off = (tgt : Int)) (kt : x < y → Z ws L tgt st) (kf : ¬ (x < y) → Z ws L (pc + 3) st) : Z ws L pc (.int y :: .int x :: st) := by
  obtain ⟨p, e, s, m, args, below, meth, c, Q, ⟨hx, hb, hml, hown, hts, hK, hr, hlk⟩, hQ, rfl⟩ := E
  exact fun H locs ls hP hD hS hl => lv_icmp_lt hx hb d ht (fun h => kt (by first | exact h | simpa using h) H locs ls hP hD hS hl) (fun h => kf (by first | exact h | simpa using h) H locs ls hP hD hS hl)
theorem zr_if_ge (E : zr_E Z l D cl tys cc nL own Ts R ret post) {x : Int32} {off : Int} (tgt : Nat) (d : decode cc pc = .ok (.ifCond .ge off, 3)) (ht : (pc : Int) + off = (tgt : Int)) (kt : 0 ≤ x → Z ws L tgt st) (kf : ¬ (0 ≤ x) → Z ws L (pc + 3) st) : Z ws L pc (.int x :: st) := by
  obtain ⟨p, e, s, m, args, below, meth, c, Q, ⟨hx, hb, hml, hown, hts, hK, hr, hlk⟩, hQ, rfl⟩ := E
  exact fun H locs ls hP hD hS hl => lv_if_ge hx hb d ht (fun h => kt (by first | exact h | simpa using h) H locs ls hP hD hS hl) (fun h => kf (by first | exact h | simpa using h) H locs ls hP hD hS hl)
theorem zr_ic_ge (E : zr_E Z l D cl tys cc nL own Ts R ret post) {x y : Int32} {off : Int} (tgt : Nat) (d : decode cc pc = .ok (.if_icmp .ge off, 3)) (ht : (pc : Int) + off = (tgt : Int)) (kt : y ≤ x → Z ws L tgt st) (kf : ¬ (y ≤ x) → Z ws L (pc + 3) st) : Z ws L pc (.int y :: .int x :: st) := by
  obtain ⟨p, e, s, m, args, below, meth, c, Q, ⟨hx, hb, hml, hown, hts, hK, hr, hlk⟩, hQ, rfl⟩ := E
  exact fun H locs ls hP hD hS hl => lv_icmp_ge hx hb d ht (fun h => kt (by first | exact h | simpa using h) H locs ls hP hD hS hl) (fun h => kf (by first | exact h | simpa using h) H locs ls hP hD hS hl)
theorem zr_if_gt (E : zr_E Z l D cl tys cc nL own Ts R ret post) {x : Int32} {off : Int} (tgt : Nat) (d : decode cc pc = .ok (.ifCond .gt off, 3)) (ht : (pc : Int) + off = (tgt : Int)) (kt : 0 < x → Z ws L tgt st) (kf : ¬ (0 < x) → Z ws L (pc + 3) st) : Z ws L pc (.int x :: st) := by
  obtain ⟨p, e, s, m, args, below, meth, c, Q, ⟨hx, hb, hml, hown, hts, hK, hr, hlk⟩, hQ, rfl⟩ := E
  exact fun H locs ls hP hD hS hl => lv_if_gt hx hb d ht (fun h => kt (by first | exact h | simpa using h) H locs ls hP hD hS hl) (fun h => kf (by first | exact h | simpa using h) H locs ls hP hD hS hl)
theorem zr_ic_gt (E : zr_E Z l D cl tys cc nL own Ts R ret post) {x y : Int32} {off : Int} (tgt : Nat) (d : decode cc pc = .ok (.if_icmp .gt off, 3)) (ht : (pc : Int) + off = (tgt : Int)) (kt : y < x → Z ws L tgt st) (kf : ¬ (y < x) → Z ws L (pc + 3) st) : Z ws L pc (.int y :: .int x :: st) := by
  obtain ⟨p, e, s, m, args, below, meth, c, Q, ⟨hx, hb, hml, hown, hts, hK, hr, hlk⟩, hQ, rfl⟩ := E
  exact fun H locs ls hP hD hS hl => lv_icmp_gt hx hb d ht (fun h => kt (by first | exact h | simpa using h) H locs ls hP hD hS hl) (fun h => kf (by first | exact h | simpa using h) H locs ls hP hD hS hl)
theorem zr_if_le (E : zr_E Z l D cl tys cc nL own Ts R ret post) {x : Int32} {off : Int} (tgt : Nat) (d : decode cc pc = .ok (.ifCond .le off, 3)) (ht : (pc : Int) + off = (tgt : Int)) (kt : x ≤ 0 → Z ws L tgt st) (kf : ¬ (x ≤ 0) → Z ws L (pc + 3) st) : Z ws L pc (.int x :: st) := by
  obtain ⟨p, e, s, m, args, below, meth, c, Q, ⟨hx, hb, hml, hown, hts, hK, hr, hlk⟩, hQ, rfl⟩ := E
  exact fun H locs ls hP hD hS hl => lv_if_le hx hb d ht (fun h => kt (by first | exact h | simpa using h) H locs ls hP hD hS hl) (fun h => kf (by first | exact h | simpa using h) H locs ls hP hD hS hl)
theorem zr_ic_le (E : zr_E Z l D cl tys cc nL own Ts R ret post) {x y : Int32} {off : Int} (tgt : Nat) (d : decode cc pc = .ok (.if_icmp .le off, 3)) (ht : (pc : Int) + off = (tgt : Int)) (kt : x ≤ y → Z ws L tgt st) (kf : ¬ (x ≤ y) → Z ws L (pc + 3) st) : Z ws L pc (.int y :: .int x :: st) := by
  obtain ⟨p, e, s, m, args, below, meth, c, Q, ⟨hx, hb, hml, hown, hts, hK, hr, hlk⟩, hQ, rfl⟩ := E
  exact fun H locs ls hP hD hS hl => lv_icmp_le hx hb d ht (fun h => kt (by first | exact h | simpa using h) H locs ls hP hD hS hl) (fun h => kf (by first | exact h | simpa using h) H locs ls hP hD hS hl)
theorem zr_goto (E : zr_E Z l D cl tys cc nL own Ts R ret post) {off : Int} (tgt : Nat) (d : decode cc pc = .ok (.goto off, 3)) (ht : (pc : Int) + off = (tgt : Int)) (k : Z ws L tgt st) : Z ws L pc st := by
  obtain ⟨p, e, s, m, args, below, meth, c, Q, ⟨hx, hb, hml, hown, hts, hK, hr, hlk⟩, hQ, rfl⟩ := E
  exact fun H locs ls hP hD hS hl => lv_goto hx hb d ht (k H locs ls hP hD hS hl)
theorem zr_get (E : zr_E Z l D cl tys cc nL own Ts R ret post) {index ci i a : Nat} {fs : List Value} {v : Value} (d : decode cc pc = .ok (.getfield index, 3)) (F : zd_F cl Ts own index ci i) (j : Nat) (he : ws[j]? = some (a, .inr (ci, fs))) (hv : fs[i]? = some v) (k : Z ws L (pc + 3) (v :: st)) : Z ws L pc (.ref a :: st) := by
  obtain ⟨p, e, s, m, args, below, meth, c, Q, ⟨hx, hb, hml, hown, hts, hK, hr, hlk⟩, hQ, rfl⟩ := E
  obtain ⟨C, T, N, hc, hin, hk, hlink | ⟨host, hlink⟩⟩ := F
  · exact fun H locs ls hP hD hS hl => va_get hx hb hts hin hown hK hP j he hc i hk (hts _ hlink) (fun _ h => h) hv d (k H locs ls hP hD hS hl)
  · exact fun H locs ls hP hD hS hl => va_getN hx hb hts hin hown hK hP j he hc i hk (hts _ hlink) (fun _ h => h) hv d (k H locs ls hP hD hS hl)
theorem zr_iald (E : zr_E Z l D cl tys cc nL own Ts R ret post) {a t0 N : Nat} {cA : ClassId} {f : Nat → Int32} {i : Int32} (d : decode cc pc = .ok (.iaload, 1)) (j : Nat) (ha : ws[j]? = some (a, .inl (cA, N, .inl f))) (ht : tys[t0]? = some (cA, .int)) (x : Nat) (hi : i = nI x) (hx1 : x < N) (hN : N < 2 ^ 31) (k : Z ws L (pc + 1) (.int (f x) :: st)) : Z ws L pc (.int i :: .ref a :: st) := by
  obtain ⟨p, e, s, m, args, below, meth, c, Q, ⟨hx, hb, hml, hown, hts, hK, hr, hlk⟩, hQ, rfl⟩ := E
  subst hi
  have e1 : (nI x).toNatClampNeg = x := nI_clamp (Nat.lt_trans hx1 hN)
  exact fun H locs ls hP hD hS hl => va_iald hx hb hK hP j t0 ha ht (vp_in_nI hx1 hN) d (by rw [e1]; exact k H locs ls hP hD hS hl)
theorem zr_zald (E : zr_E Z l D cl tys cc nL own Ts R ret post) {a t0 N : Nat} {cA : ClassId} {f : Nat → Int32} {i : Int32} (d : decode cc pc = .ok (.baload, 1)) (j : Nat) (ha : ws[j]? = some (a, .inl (cA, N, .inl f))) (ht : tys[t0]? = some (cA, .boolean)) (x : Nat) (hi : i = nI x) (hx1 : x < N) (hN : N < 2 ^ 31) (k : Z ws L (pc + 1) (.int (f x) :: st)) : Z ws L pc (.int i :: .ref a :: st) := by
  obtain ⟨p, e, s, m, args, below, meth, c, Q, ⟨hx, hb, hml, hown, hts, hK, hr, hlk⟩, hQ, rfl⟩ := E
  subst hi
  have e1 : (nI x).toNatClampNeg = x := nI_clamp (Nat.lt_trans hx1 hN)
  exact fun H locs ls hP hD hS hl => va_zald hx hb hK hP j t0 ha ht (vp_in_nI hx1 hN) d (by rw [e1]; exact k H locs ls hP hD hS hl)
theorem zr_aald (E : zr_E Z l D cl tys cc nL own Ts R ret post) {a t0 N b : Nat} {cA : ClassId} {f : Nat → Option Nat} {i : Int32} {ty : FieldType} (d : decode cc pc = .ok (.aaload, 1)) (j : Nat) (ha : ws[j]? = some (a, .inl (cA, N, .inr (.inr (.inr (.inr f)))))) (ht : tys[t0]? = some (cA, ty)) (hty : ty.isReference = true) (x : Nat) (hi : i = nI x) (hx1 : x < N) (hN : N < 2 ^ 31) (hf : f x = some b) (k : Z ws L (pc + 1) (.ref b :: st)) : Z ws L pc (.int i :: .ref a :: st) := by
  obtain ⟨p, e, s, m, args, below, meth, c, Q, ⟨hx, hb, hml, hown, hts, hK, hr, hlk⟩, hQ, rfl⟩ := E
  subst hi
  have e1 : (nI x).toNatClampNeg = x := nI_clamp (Nat.lt_trans hx1 hN)
  have hin : vp_in (nI x) N := vp_in_nI hx1 hN
  have hlt : (nI x).toNatClampNeg < N := by rw [e1]; exact hx1
  exact fun H locs ls hP hD hS hl => W.aald (v := .ref b) (ty := ty) hx hb (hP j _ ha) ((hK.2 t0 _ ht).1 N (fun q => va_rf (f q))) hty (fun q => by cases q) (by show ¬ (nI x < 0 ∨ (arrV _ _ _).slots.size ≤ _); rw [arrV_size]; exact hin) (by show (arrV _ _ _).slots[_]? = _; rw [arrV_read _ _ hlt, e1, hf]; rfl) rfl rfl d (k H locs ls hP hD hS hl)
theorem zr_alen (E : zr_E Z l D cl tys cc nL own Ts R ret post) {a t0 : Nat} {cA : ClassId} {y : vp_A} {ty : FieldType} {v : Int32} (d : decode cc pc = .ok (.arraylength, 1)) (j : Nat) (ha : ws[j]? = some (a, .inl (cA, y))) (ht : tys[t0]? = some (cA, ty)) (hv : Int32.ofNat y.1 = v) (k : Z ws L (pc + 1) (.int v :: st)) : Z ws L pc (.ref a :: st) := by
  obtain ⟨p, e, s, m, args, below, meth, c, Q, ⟨hx, hb, hml, hown, hts, hK, hr, hlk⟩, hQ, rfl⟩ := E
  exact fun H locs ls hP hD hS hl => va_alen hx hb hK hP j t0 ha ht hv d (k H locs ls hP hD hS hl)
theorem zr_less (E : zr_E Z l D cl tys cc nL own Ts R ret post) {L' : List (Option Value)} (hl0 : zd_le L' L) (k : Z ws L' pc st) : Z ws L pc st := by
  obtain ⟨p, e, s, m, args, below, meth, c, Q, ⟨hx, hb, hml, hown, hts, hK, hr, hlk⟩, hQ, rfl⟩ := E
  exact fun H locs ls hP hD hS hl => k H locs ls hP hD hS (hl.less hl0)
theorem zr_nc_eq (E : zr_E Z l D cl tys cc nL own Ts R ret post) {a b : Nat} {off : Int} (tgt : Nat) (d : decode cc pc = .ok (.if_icmp .eq off, 3)) (ht : (pc : Int) + off = (tgt : Int)) (ha : a < 2 ^ 31) (hb : b < 2 ^ 31) (kt : a = b → Z ws L tgt st) (kf : a ≠ b → Z ws L (pc + 3) st) : Z ws L pc (.int (nI b) :: .int (nI a) :: st) :=
  zr_ic_eq E tgt d ht (fun h => kt ((nI_eq ha hb).mp h)) (fun h => kf (fun z => h ((nI_eq ha hb).mpr z)))
theorem zr_nc_ne (E : zr_E Z l D cl tys cc nL own Ts R ret post) {a b : Nat} {off : Int} (tgt : Nat) (d : decode cc pc = .ok (.if_icmp .ne off, 3)) (ht : (pc : Int) + off = (tgt : Int)) (ha : a < 2 ^ 31) (hb : b < 2 ^ 31) (kt : a ≠ b → Z ws L tgt st) (kf : a = b → Z ws L (pc + 3) st) : Z ws L pc (.int (nI b) :: .int (nI a) :: st) :=
  zr_ic_ne E tgt d ht (fun h => kt (fun z => h ((nI_eq ha hb).mpr z))) (fun h => kf (Classical.byContradiction fun z => h (fun y => z ((nI_eq ha hb).mp y))))
theorem zr_nc_lt (E : zr_E Z l D cl tys cc nL own Ts R ret post) {a b : Nat} {off : Int} (tgt : Nat) (d : decode cc pc = .ok (.if_icmp .lt off, 3)) (ht : (pc : Int) + off = (tgt : Int)) (ha : a < 2 ^ 31) (hb : b < 2 ^ 31) (kt : a < b → Z ws L tgt st) (kf : b ≤ a → Z ws L (pc + 3) st) : Z ws L pc (.int (nI b) :: .int (nI a) :: st) :=
  zr_ic_lt E tgt d ht (fun h => kt ((nI_ltI ha hb).mp h)) (fun h => kf (Nat.not_lt.mp (fun z => h ((nI_ltI ha hb).mpr z))))
theorem zr_nc_ge (E : zr_E Z l D cl tys cc nL own Ts R ret post) {a b : Nat} {off : Int} (tgt : Nat) (d : decode cc pc = .ok (.if_icmp .ge off, 3)) (ht : (pc : Int) + off = (tgt : Int)) (ha : a < 2 ^ 31) (hb : b < 2 ^ 31) (kt : b ≤ a → Z ws L tgt st) (kf : a < b → Z ws L (pc + 3) st) : Z ws L pc (.int (nI b) :: .int (nI a) :: st) :=
  zr_ic_ge E tgt d ht (fun h => kt ((nI_leI hb ha).mp h)) (fun h => kf (Nat.not_le.mp (fun z => h ((nI_leI hb ha).mpr z))))
theorem zr_nc_gt (E : zr_E Z l D cl tys cc nL own Ts R ret post) {a b : Nat} {off : Int} (tgt : Nat) (d : decode cc pc = .ok (.if_icmp .gt off, 3)) (ht : (pc : Int) + off = (tgt : Int)) (ha : a < 2 ^ 31) (hb : b < 2 ^ 31) (kt : b < a → Z ws L tgt st) (kf : a ≤ b → Z ws L (pc + 3) st) : Z ws L pc (.int (nI b) :: .int (nI a) :: st) :=
  zr_ic_gt E tgt d ht (fun h => kt ((nI_ltI hb ha).mp h)) (fun h => kf (Nat.not_lt.mp (fun z => h ((nI_ltI hb ha).mpr z))))
theorem zr_nc_le (E : zr_E Z l D cl tys cc nL own Ts R ret post) {a b : Nat} {off : Int} (tgt : Nat) (d : decode cc pc = .ok (.if_icmp .le off, 3)) (ht : (pc : Int) + off = (tgt : Int)) (ha : a < 2 ^ 31) (hb : b < 2 ^ 31) (kt : a ≤ b → Z ws L tgt st) (kf : b < a → Z ws L (pc + 3) st) : Z ws L pc (.int (nI b) :: .int (nI a) :: st) :=
  zr_ic_le E tgt d ht (fun h => kt ((nI_leI ha hb).mp h)) (fun h => kf (Nat.not_le.mp (fun z => h ((nI_leI ha hb).mpr z))))
theorem zr_bf_eq (E : zr_E Z l D cl tys cc nL own Ts R ret post) {P : Prop} [Decidable P] {off : Int} (tgt : Nat) (d : decode cc pc = .ok (.ifCond .eq off, 3)) (ht : (pc : Int) + off = (tgt : Int)) (kt : ¬ P → Z ws L tgt st) (kf : P → Z ws L (pc + 3) st) : Z ws L pc (.int (nI (if P then 1 else 0)) :: st) := by
  refine zr_if_eq E tgt d ht (fun h => ?_) (fun h => ?_)
  · by_cases p : P
    · rw [if_pos p] at h; first | exact kt p | exact absurd h (by decide)
    · rw [if_neg p] at h; first | exact kt p | exact absurd h (by decide)
  · by_cases p : P
    · rw [if_pos p] at h; first | exact kf p | exact absurd h (by decide)
    · rw [if_neg p] at h; first | exact kf p | exact absurd h (by decide)
theorem zr_bf_ne (E : zr_E Z l D cl tys cc nL own Ts R ret post) {P : Prop} [Decidable P] {off : Int} (tgt : Nat) (d : decode cc pc = .ok (.ifCond .ne off, 3)) (ht : (pc : Int) + off = (tgt : Int)) (kt : P → Z ws L tgt st) (kf : ¬ P → Z ws L (pc + 3) st) : Z ws L pc (.int (nI (if P then 1 else 0)) :: st) := by
  refine zr_if_ne E tgt d ht (fun h => ?_) (fun h => ?_)
  · by_cases p : P
    · rw [if_pos p] at h; first | exact kt p | exact absurd h (by decide)
    · rw [if_neg p] at h; first | exact kt p | exact absurd h (by decide)
  · by_cases p : P
    · rw [if_pos p] at h; first | exact kf p | exact absurd h (by decide)
    · rw [if_neg p] at h; first | exact kf p | exact absurd h (by decide)
theorem zr_iret (E : zr_E Z l D cl tys cc nL own Ts R (some .int) post) {v : Int32} (d : decode cc pc = .ok (.ireturn, 1)) (h : post (some (.int v)) ws) : Z ws L pc [.int v] := by
  obtain ⟨p, e, s, m, args, below, meth, c, Q, ⟨hx, hb, hml, hown, hts, hK, hr, hlk⟩, hQ, rfl⟩ := E
  exact fun H locs ls hP hD hS hl => zd_imp hQ (W.iret (v := v) hx hb hr (fun t ht hW => ⟨some (.int v), ws, rfl, h, by rw [ht, hS.1]⟩) (fun q hq => by rw [hS.2] at hq; cases hq) d hlk)
theorem zr_zret (E : zr_E Z l D cl tys cc nL own Ts R (some .boolean) post) {v : Int32} (d : decode cc pc = .ok (.ireturn, 1)) (hn : narrow .boolean (.int v) = .int v) (h : post (some (.int v)) ws) : Z ws L pc [.int v] := by
  obtain ⟨p, e, s, m, args, below, meth, c, Q, ⟨hx, hb, hml, hown, hts, hK, hr, hlk⟩, hQ, rfl⟩ := E
  exact fun H locs ls hP hD hS hl => zd_imp hQ (W.zret (v := v) hx hb hr hn (fun t ht hW => ⟨some (.int v), ws, rfl, h, by rw [ht, hS.1]⟩) (fun q hq => by rw [hS.2] at hq; cases hq) d hlk)
theorem zr_vret (E : zr_E Z l D cl tys cc nL own Ts R none post) (d : decode cc pc = .ok (.return_, 1)) (h : post none ws) : Z ws L pc [] := by
  obtain ⟨p, e, s, m, args, below, meth, c, Q, ⟨hx, hb, hml, hown, hts, hK, hr, hlk⟩, hQ, rfl⟩ := E
  exact fun H locs ls hP hD hS hl => zd_imp hQ (W.vret hx hb hr (fun t ht hW => ⟨none, ws, rfl, h, by rw [ht, hS.1]⟩) (fun q hq => by rw [hS.2] at hq; cases hq) d hlk)
theorem zr_run {p : Program} {e : Env} {s : State} {m : MethodId} {args : Array Value} {below : List Frame} {meth : Method} {c : Code} {H : Heap} {locs : List Loc} {ls : Array Slot} {st0 : List Value} {a : Array Value} {post1 : Option Value → va_W → Prop} {Q : State → Prop}
    (hr : va_Run p l e R s m args below meth c H locs 0 0 0 0 (F0 m pc ls st0) st (zr_Q post1 a) (fun _ => False))
    (kk : ∀ (v : Option Value) (ws1 : va_W), post1 v ws1 → W p l e R s m args below meth c H locs 0 0 Q (F0 m (pc + 3) ls (v.toList ++ st))) : W p l e R s m args below meth c H locs 0 0 Q (F0 m pc ls st0) := by
  intro T hT X
  obtain ⟨v, st₀, t, T', L1, h0, X', hL, e1, e2, ⟨v1, ws1, hv, hp, hh⟩, go⟩ := hr T hT X
  cases hv
  have hL0 : L1 = [] := by
    cases L1 with
    | nil => rfl
    | cons x r => exact (hL x List.mem_cons_self).elim
  subst hL0
  rw [List.append_nil] at X'
  obtain ⟨t2, a1, b1⟩ := kk v ws1 hp T' (by rw [e1, hh, h0]) X'
  exact ⟨t2, go t2 a1, b1⟩
theorem zr_callS (E : zr_E Z l D cl tys cc nL own Ts R ret post) {index maxL n da : Nat} {y : MethodName} {bytes : ByteArray} {r1 : Option FieldType} {av st0 : List Value} {post1 : Option Value → va_W → Prop} (d : decode cc pc = .ok (.invokestatic index, 3)) (F : zd_C Ts own index y bytes maxL r1 n) (hst : st0 = av.reverse ++ st) (hstat : Cond.static y ∈ Ts) (C : zr_Ct l D cl tys Ts y bytes maxL r1 (zd_rm da) av ws post1) (hd : da + 1 ≤ R.frames ∧ 40 * (da + 1) ≤ R.locals) (hn : av.length = n) (hW : (st.map fun v => v.category).sum ≤ 8) (kk : ∀ (v : Option Value) (ws1 : va_W), post1 v ws1 → Z ws L (pc + 3) (v.toList ++ st)) : Z ws L pc st0 := by
  obtain ⟨p, e, s, m, args, below, meth, c, Q, ⟨hx, hb, hml, hown, hts, hK, hr, hlk⟩, hQ, rfl⟩ := E
  obtain ⟨hcode, hini, hmh, hpar, hmx, hlink | ⟨host, hlink⟩⟩ := F
  · exact fun H locs ls hP hD hS hl => zr_run (va_runS (As := av) (rest := st) ⟨hx, hb, hml, hown, hts⟩ C ⟨callB_of n hts (zd_good hcode) rfl rfl rfl (hts _ hini) (hts _ hlink) ⟨hmh.1, hmh.2, hpar⟩ (show (zd_rm da).frames + 1 ≤ R.frames ∧ 8 + (maxL + 11) + (zd_rm da).locals ≤ R.locals from ⟨hd.1, by have := hd.2; show 8 + (maxL + 11) + 40 * da ≤ R.locals; omega⟩), hts _ hstat⟩ ⟨zd_blind, zd_at hts hP hK hD⟩ rfl hn hl.1 hst (lv_room hW) d ⟨Nat.zero_le _, Nat.zero_le _⟩) (fun v ws1 hp => kk v ws1 hp H locs ls hP hD hS hl)
  · exact fun H locs ls hP hD hS hl => zr_run (va_runSN (As := av) (rest := st) ⟨hx, hb, hml, hown, hts⟩ C ⟨va_cnB n hts (zd_good hcode) rfl rfl rfl (va_Nw.of rfl (hts _ hlink)) (hts _ hini) ⟨hmh.1, hmh.2, hpar⟩ (show (zd_rm da).frames + 1 ≤ R.frames ∧ 8 + (maxL + 11) + (zd_rm da).locals ≤ R.locals from ⟨hd.1, by have := hd.2; show 8 + (maxL + 11) + 40 * da ≤ R.locals; omega⟩), hts _ hstat, trivial⟩ ⟨zd_blind, zd_at hts hP hK hD⟩ rfl hn hl.1 hst (lv_room hW) d ⟨Nat.zero_le _, Nat.zero_le _⟩) (fun v ws1 hp => kk v ws1 hp H locs ls hP hD hS hl)
theorem zr_callV (E : zr_E Z l D cl tys cc nL own Ts R ret post) {ci b : Nat} {T1 : u_T} {N1 : Nat} {fs : List Value} {index maxL n da : Nat} {y : MethodName} {bytes : ByteArray} {r1 : Option FieldType} {av st0 : List Value} {post1 : Option Value → va_W → Prop} (d : decode cc pc = .ok (.invokevirtual index, 3)) (F : zd_C Ts own index y bytes maxL r1 n) (hst : st0 = av.reverse ++ .ref b :: st) (hinst : Cond.instanceMethod y ∈ Ts) (hsel : Cond.selects y.cls y y ∈ Ts) (j : Nat) (he : ws[j]? = some (b, .inr (ci, fs))) (hc : cl[ci]? = some (y.cls, T1, N1)) (C : zr_Ct l D cl tys Ts y bytes maxL r1 (zd_rm da) (.ref b :: av) ws post1) (hd : da + 1 ≤ R.frames ∧ 40 * (da + 1) ≤ R.locals) (hn : av.length = n) (hW : (st.map fun v => v.category).sum ≤ 8) (kk : ∀ (v : Option Value) (ws1 : va_W), post1 v ws1 → Z ws L (pc + 3) (v.toList ++ st)) : Z ws L pc st0 := by
  obtain ⟨p, e, s, m, args, below, meth, c, Q, ⟨hx, hb, hml, hown, hts, hK, hr, hlk⟩, hQ, rfl⟩ := E
  obtain ⟨hcode, hini, hmh, hpar, hmx, hlink | ⟨host, hlink⟩⟩ := F
  · exact fun H locs ls hP hD hS hl => zr_run (va_runV (As := av) (rest := st) (C := y.cls) ⟨hx, hb, hml, hown, hts⟩ C ⟨callB_of n hts (zd_good hcode) rfl rfl rfl (hts _ hini) (hts _ hlink) ⟨hmh.1, hmh.2, hpar⟩ (show (zd_rm da).frames + 1 ≤ R.frames ∧ 8 + (maxL + 11) + (zd_rm da).locals ≤ R.locals from ⟨hd.1, by have := hd.2; show 8 + (maxL + 11) + 40 * da ≤ R.locals; omega⟩), hts _ hinst, hts _ hsel⟩ ⟨zd_blind, va_recv hK hP hc he, zd_at hts hP hK hD⟩ rfl hn hl.1 hst (lv_room hW) d ⟨Nat.zero_le _, Nat.zero_le _⟩) (fun v ws1 hp => kk v ws1 hp H locs ls hP hD hS hl)
  · exact fun H locs ls hP hD hS hl => zr_run (va_runVN (As := av) (rest := st) (C := y.cls) ⟨hx, hb, hml, hown, hts⟩ C ⟨va_cnB n hts (zd_good hcode) rfl rfl rfl (va_Nw.of rfl (hts _ hlink)) (hts _ hini) ⟨hmh.1, hmh.2, hpar⟩ (show (zd_rm da).frames + 1 ≤ R.frames ∧ 8 + (maxL + 11) + (zd_rm da).locals ≤ R.locals from ⟨hd.1, by have := hd.2; show 8 + (maxL + 11) + 40 * da ≤ R.locals; omega⟩), hts _ hinst, hts _ hsel⟩ ⟨zd_blind, va_recv hK hP hc he, zd_at hts hP hK hD⟩ rfl hn hl.1 hst (lv_room hW) d ⟨Nat.zero_le _, Nat.zero_le _⟩) (fun v ws1 hp => kk v ws1 hp H locs ls hP hD hS hl)
end ZR
/-! What a throw needs beside the tables' words, and how it stays. -/
def th_ok : Cond → Bool
  | .castable .. => true
  | .declares _ => true
  | .not (.castable ..) => true
  | .laysStatic .. => true
  | .isRef (.static ..) => true
  | _ => false
/-- since s the tables are but warmer, and the cells of statics are as they were -/
def th_kp (s U : State) : Prop := s.WarmedH U.vm ∧ ∀ (q : Nat) (cell : Cell), s.heap[q]? = some cell → cell.vm.isStatics = true → U.heap[q]? = some cell
theorem th_keep {w : Cond} {a a' : Array Value} {s U : State} (hw : th_ok w = true) (hk : th_kp s U) (h : w.before a s = true) : w.before a' U = true := by
  have hsh := State.Shifted.of_warmed hk.1
  match w, hw with
  | .castable x y, _ =>
    have h1 := Cond.before_shiftedFace hsh (.castable x y) rfl h
    rw [Cond.onTables_vm (A' := a') (U' := U) U.vm (.castable x y) rfl, State.setVm_self] at h1
    exact h1
  | .declares x, _ =>
    have h1 := Cond.before_shiftedFace hsh (.declares x) rfl h
    rw [Cond.onTables_vm (A' := a') (U' := U) U.vm (.declares x) rfl, State.setVm_self] at h1
    exact h1
  | .not (.castable x y), _ =>
    have h1 := Cond.before_shiftedCast hsh (.not (.castable x y)) rfl h
    simp only [Cond.before, Cond.holds, Cond.value] at h1 ⊢
    exact h1
  | .laysStatic o n d, _ =>
    have h1 := Cond.before_shiftedFace hsh (.laysStatic o n d) rfl h
    simp only [Cond.before, Cond.holds, Cond.value] at h1 ⊢
    have e1 : (s.setVm U.vm).vm.findClass o = U.vm.findClass o := rfl
    have e2 : (s.setVm U.vm).fieldFound? o n d = U.fieldFound? o n d := rfl
    rw [e1, e2] at h1
    cases hc : U.vm.findClass o with
    | none => simp [hc] at h1
    | some c =>
      cases hf : U.fieldFound? o n d with
      | none => simp [hc, hf] at h1
      | some x =>
        obtain ⟨c', k, i, f⟩ := x
        simp only [hc, hf] at h1 ⊢
        cases ha : k.statics with
        | none => simp [ha] at h1
        | some q =>
          simp only [ha, Option.bind_some] at h1 ⊢
          have e3 : (s.setVm U.vm).heap[q]? = s.heap[q]? := rfl
          rw [e3] at h1
          cases hq : s.heap[q]? with
          | none => simp [hq] at h1
          | some cell =>
            simp only [hq, Option.map_some] at h1
            have hs : cell.vm.isStatics = true := by
              simp only [Option.some.injEq, Bool.and_eq_true, beq_iff_eq] at h1
              exact h1.1.1.1.2
            rw [hk.2 q cell hq hs]
            exact h1
  | .isRef (.static o n d), _ =>
    have h1 := Cond.before_shiftedFace hsh (.isRef (.static o n d)) rfl h
    have key : ∀ v, (Term.static o n d).eval a (s.setVm U.vm) none [] (s.setVm U.vm) = some v → (Term.static o n d).eval a' U none [] U = some v := by
      intro v hv
      have e2 : (s.setVm U.vm).fieldNamed? o n d true = U.fieldNamed? o n d true := rfl
      simp only [Term.eval, e2] at hv ⊢
      cases hf : U.fieldNamed? o n d true with
      | none => simp [hf] at hv
      | some x =>
        obtain ⟨c', k, sl⟩ := x
        simp only [hf, Option.bind_eq_bind, Option.bind_some] at hv ⊢
        cases ha : k.statics with
        | none => simp [ha] at hv
        | some q =>
          simp only [ha, Option.bind_some] at hv ⊢
          have e3 : (s.setVm U.vm).heap[q]? = s.heap[q]? := rfl
          rw [e3] at hv
          cases hq : s.heap[q]? with
          | none => simp [hq] at hv
          | some cell =>
            simp only [hq, Option.bind_some] at hv
            cases hs : cell.vm.isStatics with
            | false => simp [hs] at hv
            | true =>
              rw [hk.2 q cell hq hs]
              simp only [Option.bind_some, hs, if_true] at hv ⊢
              exact hv
    simp only [Cond.before, Cond.holds, Cond.value] at h1 ⊢
    cases hv : (Term.static o n d).eval a (s.setVm U.vm) none [] (s.setVm U.vm) with
    | none => simp [hv] at h1
    | some v =>
      rw [key v hv]
      rw [hv] at h1
      exact h1
def th_sx : List (Nat × String) := [(62, "no room for another fact"), (76, "a cost is 1 to 9"), (82, "no room for another action"), (195, "no such action"), (192, "no such fact"), (94, "a kind is 0, 1 or 2"), (104, "linked already"), (112, "not applicable"), (185, "the draft is full")]
def th_S : String := "java/lang/IllegalStateException"
def th_A : String := "java/lang/IllegalArgumentException"
def th_I : String := "java/lang/IndexOutOfBoundsException"
def th_ws : List Cond := [.castable th_S th_S, .castable th_A th_A, .castable th_I th_I, .declares ⟨"java/lang/RuntimeException", "<init>", "(Ljava/lang/String;)V"⟩, .declares ⟨"java/lang/Exception", "<init>", "(Ljava/lang/String;)V"⟩, .declares ⟨"java/lang/Throwable", "<init>", "(Ljava/lang/String;)V"⟩,
  .not (.castable th_S th_A), .not (.castable th_S th_I), .not (.castable th_A th_I),
  .laysStatic "java/lang/Throwable" "UNASSIGNED_STACK" "[Ljava/lang/StackTraceElement;", .laysStatic "java/lang/Throwable" "SUPPRESSED_SENTINEL" "Ljava/util/List;",
  .isRef (.static "java/lang/Throwable" "UNASSIGNED_STACK" "[Ljava/lang/StackTraceElement;"), .isRef (.static "java/lang/Throwable" "SUPPRESSED_SENTINEL" "Ljava/util/List;")]
def th_X (U : State) : Prop := (∀ w ∈ th_ws, w.before #[] U = true) ∧ ∀ x ∈ th_sx, ∃ a, vk_R "CutPlanner" x.1 x.2 a U
theorem th_wsok : ∀ w ∈ th_ws, th_ok w = true := by decide
theorem th_X.keep {s U : State} (hk : th_kp s U) (h : th_X s) : th_X U := ⟨fun w hw => th_keep (th_wsok w hw) hk (h.1 w hw), fun x hx => by
  obtain ⟨a, ha⟩ := h.2 x hx
  exact ⟨a, ha.warm hk.1⟩⟩
theorem th_kp.refl (s : State) : th_kp s s := ⟨State.WarmedH.refl s, fun _ _ h _ => h⟩
theorem th_X.use {s : State} (h : th_X s) {w : Cond} (hw : w ∈ th_ws) (a : Array Value) : w.before a s = true := th_keep (th_wsok w hw) (th_kp.refl s) (h.1 w hw)
/-- an end by a throw of an X; nothing that was there has changed -/
def th_Q (X : String) : Array Value → State → Outcome → State → Prop := fun _ st oc t => ∃ a : Nat, oc = .threw a ∧ (∃ ce : Cell, t.heap[a]? = some ce ∧ st.vm.findClass X = some ce.cls ∧ ce.vm = .none) ∧ st.WarmedH t.vm ∧ st.sameButNew ({ t with vm := st.vm } : State) [] 1 6
theorem th_same {s t : State} {c n : Nat} (h : s.sameButNew t [] c n) : ∀ (q : Nat) (cell : Cell), s.heap[q]? = some cell → t.heap[q]? = some cell := by
  intro q cell hq
  obtain ⟨c', h1, h2, h3, h4⟩ := h.2.2.2.2.2 q cell hq
  rw [h1]
  have : c'.slots = cell.slots := Array.ext_getElem? (fun i => h4 i (by simp))
  rw [h2, this]
def th_Ct (l : Launch) (D : va_G) (cl : List vw_C) (tys : List (ClassId × FieldType)) (Ts : List Cond) (y : MethodName) (cc : ByteArray) (nL : Nat) (ret : Option FieldType) (R : Room) (av : List Value) (ws : va_W) (X : String) : Prop :=
  MetFree l y (headSpec (zd_wy y cc nL ret Ts) R) (va_Pc av (fun U => va_P D cl ws U.heap ∧ va_K D cl tys U ∧ va_D (fun _ => True) ws ∧ zd_N Ts U ∧ th_X U)) (fun _ _ _ _ _ => True) (th_Q X)
def th_End (below : List Frame) (X : String) (args : Array Value) (s : State) : State → Prop := fun t => ∃ o, t.status = .running ∧ Ended t below o ∧ th_Q X args s o t
def th_E (Z : va_W → List (Option Value) → Nat → List Value → Prop) (l : Launch) (D : va_G) (cl : List vw_C) (tys : List (ClassId × FieldType)) (cc : ByteArray) (nL : Nat) (own : String) (Ts : List Cond) (R : Room) (ret : Option FieldType) (X : String) : Prop :=
  ∃ (p : Program) (e : Env) (s : State) (m : MethodId) (args : Array Value) (below : List Frame) (meth : Method) (c : Code),
    zd_B p s m args meth c D cl tys cc nL own Ts ret ∧ c.exceptionTable.isEmpty = true ∧ th_X s ∧ Z = zr_W p l e R s m args below meth c D cl nL (th_End below X args s)
/-- the room of d frames, for a throw -/
def th_rm (d : Nat) : Room := { frames := d, cells := 1, slots := 6, locals := 40 * d }
theorem th_met {l : Launch} {D : va_G} {cl : List vw_C} {tys : List (ClassId × FieldType)} {y : MethodName} {cc : ByteArray} {nL : Nat} {Ts : List Cond} {R : Room} {ret : Option FieldType} {av : List Value} {ws : va_W} {X : String}
    (G : zd_G Ts) (hy : plainName y.cls = true) (hc0 : av.all (fun v => v.category == 1) = true) (hn : (lg_sl av).length ≤ nL)
    (body : ∀ Z, th_E Z l D cl tys cc nL y.cls Ts R ret X → Z ws (av.map some ++ List.replicate (nL - av.length) none) 0 []) : th_Ct l D cl tys Ts y cc nL ret R av ws X := by
  have hc : ∀ v ∈ av, v.category = 1 := fun v hv => by simpa using List.all_eq_true.mp hc0 v hv
  refine MetFree.of_bodyS (code := cc) (maxLocals := nL) (ret := ret) hy ?_ ?_
  · intro args s m h hn
    obtain ⟨meth, c, h1, h2, h3, h4, h5, h6, -, -⟩ := Cond.code_spec hn (atoms_spec (ws := zd_wy y cc nL ret Ts) h _ List.mem_cons_self)
    exact ⟨meth, c, h1, h2, h3, h4, h5, h6⟩
  · intro p e s m args below meth c s₁ B hml hv _
    obtain ⟨rfl, hP, hK, hD0, hN0, hX⟩ := hv
    have hl := lv_entry av (n := nL) hn
    have hown : s.vm.findClass y.cls = some m.cls := findClass_of_methodNamed B.named
    have hts := atoms_spec (ws := zd_wy y cc nL ret Ts) B.pre
    have hh0 : s₁.heap = s.heap := by rw [B.state]; rfl
    have K : W p l e R s m av.toArray below meth c s.heap [] 0 0 (th_End below X av.toArray s) (entryFrame m av.toArray nL) := by
      rw [lg_entry_eq]
      refine body _ ⟨p, e, s, m, av.toArray, below, meth, c, ⟨B.exec, B.bytes, hml, hown, fun w hw => (G w hw).elim (fun g => hts w (List.mem_cons_of_mem _ (List.mem_filter.mpr ⟨hw, g⟩))) (fun g => zd_nuse g (hN0 w hw g)), hK, B.returns, B.notSynchronized⟩, B.noHandlers (hts _ List.mem_cons_self), hX, rfl⟩ s.heap [] _ hP hD0 ⟨rfl, rfl⟩ ?_
      refine ⟨hl.1, hl.2.1, fun i v hi => ?_⟩
      obtain ⟨h1, h2⟩ := zd_init av _ 0 i v hc hi
      rw [Nat.zero_add] at h1
      exact ⟨hc v h2, hl.2.2 (i, v) h1⟩
    obtain ⟨t, a1, o, b1, b2, b3⟩ := K s₁ hh0 (Stand.of_body B)
    exact ⟨t, o, a1, b1, b2, b3⟩
theorem th_E.R {Z : va_W → List (Option Value) → Nat → List Value → Prop} {l : Launch} {D : va_G} {cl : List vw_C} {tys : List (ClassId × FieldType)} {cc : ByteArray} {nL : Nat} {own : String} {Ts : List Cond} {R : Room} {ret : Option FieldType} {X : String} (h : th_E Z l D cl tys cc nL own Ts R ret X) : zr_E Z l D cl tys cc nL own Ts R ret (fun _ _ => False) := by
  obtain ⟨p, e, s, m, args, below, meth, c, hB, -, -, rfl⟩ := h
  exact ⟨p, e, s, m, args, below, meth, c, _, hB, fun t ht => by
    obtain ⟨o, -, -, ⟨v, ws, -, hf, -⟩, -⟩ := ht
    exact hf.elim, rfl⟩
theorem th_out {c : Code} (h : c.exceptionTable.isEmpty = true) (pc : Nat) : ∀ x ∈ c.exceptionTable.toList, covers x pc = false := by
  intro x hx
  have h0 : c.exceptionTable.size = 0 := by simpa [Array.isEmpty] using h
  have h1 : c.exceptionTable.toList = [] := List.eq_nil_of_length_eq_zero (by simpa using h0)
  rw [h1] at hx
  cases hx
section TH
variable {Z : va_W → List (Option Value) → Nat → List Value → Prop} {l : Launch} {D : va_G} {cl : List vw_C} {tys : List (ClassId × FieldType)} {cc : ByteArray} {nL : Nat} {Ts : List Cond} {R : Room} {ret : Option FieldType} {X : String}
variable {ws : va_W} {L : List (Option Value)} {pc : Nat} {st : List Value}
/-- new, dup, ldc, the constructor, athrow -/
theorem th_throw (hE : th_E Z l D cl tys cc nL "CutPlanner" Ts R ret X) (hl : l.stackTraces = false) {i0 i4 ic : Nat} {tx : String} {names : List String} (d0 : decode cc pc = .ok (.new i0, 3)) (d3 : decode cc (pc + 3) = .ok (.dup, 1)) (d4 : decode cc (pc + 4) = .ok (.ldc i4, 2)) (d6 : decode cc (pc + 6) = .ok (.invokespecial ic, 3)) (d9 : decode cc (pc + 9) = .ok (.athrow, 1))
    (hcl : Cond.classLink "CutPlanner" i0 X ∈ Ts) (hins : Cond.instantiable X 6 ∈ Ts) (hini : Cond.initialized X ∈ Ts) (hs : (i4, tx) ∈ th_sx) (hfit : Bundle.fit X = true) (hfits : ∀ n ∈ names, Bundle.fit n = true) (hat : ∀ w ∈ Bundle.ownAtoms "CutPlanner" ic X names, w ∈ Ts ∨ w ∈ th_ws)
    (hR : 1 ≤ R.cells ∧ 6 ≤ R.slots ∧ names.length + 3 < R.frames ∧ 13 * (names.length + 1) + 43 ≤ R.locals) : Z ws L pc [] := by
  obtain ⟨p, e, s, m, args, below, meth, c, ⟨hx, hb, hml, hown, hts, hK, hr, hlk⟩, hem, hX, rfl⟩ := hE
  intro H locs ls hP hD hS hls
  obtain ⟨hSh, hSl⟩ := hS
  subst hSl
  refine W.newc hx hb hown (hts _ hcl) (hts _ hins) (hts _ hini) rfl d0 (by omega) (by omega) (fun cC kC h1 h2 h3 h4 => ?_)
  refine W.eq (g2 := F0 m (pc + 3) ls [.ref H.size]) rfl ?_
  refine lv_dup hx hb d3 rfl ?_
  obtain ⟨sa, hsa⟩ := hX.2 _ hs
  refine va_ldcS hx hb hown hsa d4 ?_
  intro T hT S
  have htr : e.platform.stackTraces = false := by rw [S.admits.platform]; exact hl
  subst hb
  obtain ⟨U, st1, hrun, hend, hW, hsame, ce, hce, hO⟩ := S.ctorThrowS hx htr (own := "CutPlanner") (cls := X) (names := names) (ic := ic) hown hfit hfits (fun w hw => (hat w hw).elim (hts w) (fun h => hX.use h args)) (fun x hx => by cases hx) (a := H.size) h1 h2 (by rw [hT]; simp) (by rw [hSh]; exact Nat.le_refl _) (msg := .ref sa) rfl (g := F0 m (pc + 6) ls [.ref sa, .ref H.size, .ref H.size]) rfl (by rw [hml]; exact hls.1) rfl rfl (rest := []) rfl d6 d9 (th_out hem _) hR.2.2.1 (by show 2 * 0 + (1 + 0) + _ ≤ _; omega) hlk
  exact ⟨U, st1, .threw H.size, hrun, hend, H.size, rfl, ⟨ce, hce, hO.cls, hO.vm⟩, hW, hsame.mono (by omega) (by omega)⟩
end TH
