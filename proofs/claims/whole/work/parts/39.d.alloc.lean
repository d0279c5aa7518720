/-! Walks that make cells, walks with handlers: the family Zf nc ns; Y: what stays over calls. -/
def zx_k (Y : State → Prop) : Prop := ∀ s U, th_kp s U → Y s → Y U
def zd_X (Zf : Nat → Nat → va_W → List (Option Value) → Nat → List Value → Prop) (l : Launch) (D : va_G) (cl : List vw_C) (tys : List (ClassId × FieldType)) (cc : ByteArray) (nL : Nat) (own : String) (Ts : List Cond) (R : Room) (ret : Option FieldType) (post : Option Value → va_W → Prop) (mc ms : Nat) (ini : Bool) (hh : Option (List (Nat × Nat × Nat × Nat))) (Y : State → Prop) : Prop :=
  ∃ (p : Program) (e : Env) (s : State) (m : MethodId) (args : Array Value) (below : List Frame) (meth : Method) (c : Code) (A : Nat → Prop) (Q : State → Prop),
    zd_B p s m args meth c D cl tys cc nL own Ts ret ∧ (mc ≤ R.cells ∧ ms ≤ R.slots) ∧ (∀ t, MQ below (zd_Q D cl tys A post) args s mc ms A t → Q t) ∧
    (∀ q, s.heap.size ≤ q → A q) ∧ (∀ (q : Nat) (cell : Cell), A q → s.heap[q]? = some cell → cell.vm.isStatics = false) ∧ (ini = true → meth.name = "<init>") ∧ (∀ x, hh = some x → c.exceptionTable.toList.map (fun h => (h.startPc, h.endPc, h.handlerPc, h.catchType)) = x) ∧ (zx_k Y ∧ Y s) ∧
    Zf = fun nc ns => zd_W p l e R s m args below meth c D cl A nL nc ns Q
theorem MQ_mono {below : List Frame} {Qc : Array Value → State → Outcome → State → Prop} {a : Array Value} {s : State} {mc ms mc' ms' : Nat} {free : Addr → Prop} (h1 : mc ≤ mc') (h2 : ms ≤ ms') {t : State} (h : MQ below Qc a s mc ms free t) : MQ below Qc a s mc' ms' free t := by
  obtain ⟨o, a1, a2, a3, L, ⟨b1, b2, b3⟩, b4⟩ := h
  exact ⟨o, a1, a2, a3, L, ⟨b1, b2, b3.mono h1 h2⟩, b4⟩
theorem zx_front {D : va_G} {cl : List vw_C} {ws : va_W} {H : Heap} {x : Nat × va_E} (h : va_P D cl (ws ++ [x]) H) : va_P D cl (x :: ws) H := by
  intro k q hk
  cases k with
  | zero =>
    simp only [List.getElem?_cons_zero, Option.some.injEq] at hk
    subst hk
    exact h ws.length x (by simp)
  | succ k =>
    simp only [List.getElem?_cons_succ] at hk
    have hl : k < ws.length := (List.getElem?_eq_some_iff.mp hk).1
    exact h k q (by rw [List.getElem?_append_left hl]; exact hk)
theorem zx_frontD {A : Nat → Prop} {ws : va_W} {x : Nat × va_E} (h : va_D A (ws ++ [x])) : va_D A (x :: ws) := by
  have key : ∀ (k : Nat) (q : Nat × va_E), (x :: ws)[k]? = some q → ∃ i, (ws ++ [x])[i]? = some q ∧ (k = 0 ∧ i = ws.length ∨ k = i + 1 ∧ i < ws.length) := by
    intro k q hk
    cases k with
    | zero =>
      simp only [List.getElem?_cons_zero, Option.some.injEq] at hk
      subst hk
      exact ⟨ws.length, by simp, Or.inl ⟨rfl, rfl⟩⟩
    | succ k =>
      simp only [List.getElem?_cons_succ] at hk
      have hl : k < ws.length := (List.getElem?_eq_some_iff.mp hk).1
      exact ⟨k, by rw [List.getElem?_append_left hl]; exact hk, Or.inr ⟨rfl, hl⟩⟩
  refine ⟨fun i j p q hi hj hpq => ?_, fun k q hk => ?_⟩
  · obtain ⟨i', h1, h2⟩ := key i p hi
    obtain ⟨j', h3, h4⟩ := key j q hj
    have := h.1 i' j' p q h1 h3 hpq
    omega
  · obtain ⟨i', h1, -⟩ := key k q hk
    exact h.2 i' q h1
theorem zx_nost {D : va_G} {cl : List vw_C} {q : Nat × va_E} {H : Heap} (h : va_at D cl q H) {cell : Cell} (hc : H[q.1]? = some cell) : cell.vm.isStatics = false := by
  obtain ⟨a, e⟩ := q
  cases e with
  | inl x =>
    have h : H[a]? = some (vp_cell x.1 x.2) := h
    have e2 := h.symm.trans hc
    cases e2
    obtain ⟨cA, n, f | f | f | f | f⟩ := x <;> rfl
  | inr x =>
    obtain ⟨r, -, cell', g1, g2, g3, -⟩ := h
    have e2 := (show H[a]? = some cell' from g1).symm.trans hc
    cases e2
    rw [g3]
    rfl
/-- a contract of a method that makes cells, or that has handlers -/
def zx_Ct (l : Launch) (D : va_G) (cl : List vw_C) (tys : List (ClassId × FieldType)) (Ts : List Cond) (y : MethodName) (cw : Cond) (R : Room) (av : List Value) (ws : va_W) (post : Option Value → va_W → Prop) (mc ms : Nat) (Y : State → Prop) : Prop :=
  ∀ sz, Met l y (cw :: Ts.filter goodWord) R (va_Pc av (fun U => U.heap.size = sz ∧ va_P D cl ws U.heap ∧ va_K D cl tys U ∧ va_D (fun _ => True) ws ∧ zd_N Ts U ∧ Y U)) (zd_Q D cl tys (va_A ws sz) post) mc ms (va_A ws sz)
section ZX1
variable {l : Launch} {D : va_G} {cl : List vw_C} {tys : List (ClassId × FieldType)} {y : MethodName} {cc : ByteArray} {nL : Nat} {Ts : List Cond} {R : Room} {ret : Option FieldType} {av : List Value} {ws : va_W} {post : Option Value → va_W → Prop} {mc ms : Nat} {Y : State → Prop}
theorem zx_met (G : zd_G Ts) (hY : zx_k Y) (hy : plainName y.cls = true) (hc0 : av.all (fun v => v.category == 1) = true) (hn : (lg_sl av).length ≤ nL) (hR : mc ≤ R.cells ∧ ms ≤ R.slots)
    (body : ∀ Zf, zd_X Zf l D cl tys cc nL y.cls Ts R ret post mc ms (y.name == "<init>") none Y → Zf 0 0 ws (av.map some ++ List.replicate (nL - av.length) none) 0 []) : zx_Ct l D cl tys Ts y (.code y cc nL ret) R av ws post mc ms Y := by
  intro sz
  have hc : ∀ v ∈ av, v.category = 1 := fun v hv => by simpa using List.all_eq_true.mp hc0 v hv
  refine Met.ofW (cc := cc) (maxL := nL) (ret := ret) hy rfl ?_
  intro p e s m args below meth c s₁ B hml hv
  obtain ⟨rfl, hsz, hP, hK, hD0, hN0, hYs⟩ := hv
  subst hsz
  have hD : va_D (va_A ws s.heap.size) ws := ⟨hD0.1, fun k q hk => Or.inl ⟨k, q.2, hk⟩⟩
  have hl := lv_entry av (n := nL) hn
  rw [lg_entry_eq]
  have hown : s.vm.findClass y.cls = some m.cls := findClass_of_methodNamed B.named
  have hts := atoms_spec (ws := Cond.code y cc nL ret :: Ts.filter goodWord) B.pre
  refine body _ ⟨p, e, s, m, av.toArray, below, meth, c, va_A ws s.heap.size, _, ⟨B.exec, B.bytes, hml, hown, fun w hw => (G w hw).elim (fun g => hts w (List.mem_cons_of_mem _ (List.mem_filter.mpr ⟨hw, g⟩))) (fun g => zd_nuse g (hN0 w hw g)), hK, B.returns, B.notSynchronized⟩, hR, fun _ h => h, fun q hq => Or.inr hq, fun q cell hq hcell => ?_, fun hi => ?_, fun _ h => (by cases h), ⟨hY, hYs⟩, rfl⟩ s.heap [] _ hP hD va_S.rf ?_
  · rcases hq with ⟨k, e, hk⟩ | hq
    · exact zx_nost (hP k _ hk) hcell
    · have := (Array.getElem?_eq_some_iff.mp hcell).1
      omega
  · rw [(name_of_methodNamed B.named B.method).1]
    simpa using hi
  refine ⟨hl.1, hl.2.1, fun i v hi => ?_⟩
  obtain ⟨h1, h2⟩ := zd_init av _ 0 i v hc hi
  rw [Nat.zero_add] at h1
  exact ⟨hc v h2, hl.2.2 (i, v) h1⟩
theorem zx_metW {hh : List (Nat × Nat × Nat × Nat)} (G : zd_G Ts) (hY : zx_k Y) (hy : plainName y.cls = true) (hc0 : av.all (fun v => v.category == 1) = true) (hn : (lg_sl av).length ≤ nL) (hR : mc ≤ R.cells ∧ ms ≤ R.slots)
    (body : ∀ Zf, zd_X Zf l D cl tys cc nL y.cls Ts R ret post mc ms false (some hh) Y → Zf 0 0 ws (av.map some ++ List.replicate (nL - av.length) none) 0 []) : zx_Ct l D cl tys Ts y (.codeWith y cc nL ret hh) R av ws post mc ms Y := by
  intro sz
  have hc : ∀ v ∈ av, v.category = 1 := fun v hv => by simpa using List.all_eq_true.mp hc0 v hv
  refine va_MetW (cc := cc) (maxL := nL) (ret := ret) (hh := hh) hy rfl ?_
  intro p e s m args below meth c s₁ B hml hv
  obtain ⟨rfl, hsz, hP, hK, hD0, hN0, hYs⟩ := hv
  subst hsz
  have hD : va_D (va_A ws s.heap.size) ws := ⟨hD0.1, fun k q hk => Or.inl ⟨k, q.2, hk⟩⟩
  have hl := lv_entry av (n := nL) hn
  rw [lg_entry_eq]
  have hown : s.vm.findClass y.cls = some m.cls := findClass_of_methodNamed B.named
  have hts := atoms_spec (ws := Cond.codeWith y cc nL ret hh :: Ts.filter goodWord) B.pre
  have htab : c.exceptionTable.toList.map (fun h => (h.startPc, h.endPc, h.handlerPc, h.catchType)) = hh := by
    obtain ⟨m9, meth9, c9, h1, h2, h3, -, -, h4, -⟩ := Cond.codeWith_spec (hts _ List.mem_cons_self)
    cases B.named.symm.trans h1
    cases B.method.symm.trans h2
    cases (Stand.of_body B).code.symm.trans h3
    exact h4
  refine body _ ⟨p, e, s, m, av.toArray, below, meth, c, va_A ws s.heap.size, _, ⟨B.exec, B.bytes, hml, hown, fun w hw => (G w hw).elim (fun g => hts w (List.mem_cons_of_mem _ (List.mem_filter.mpr ⟨hw, g⟩))) (fun g => zd_nuse g (hN0 w hw g)), hK, B.returns, B.notSynchronized⟩, hR, fun _ h => h, fun q hq => Or.inr hq, fun q cell hq hcell => ?_, fun hi => (by cases hi), fun x h => (by cases h; exact htab), ⟨hY, hYs⟩, rfl⟩ s.heap [] _ hP hD va_S.rf ?_
  · rcases hq with ⟨k, e, hk⟩ | hq
    · exact zx_nost (hP k _ hk) hcell
    · have := (Array.getElem?_eq_some_iff.mp hcell).1
      omega
  refine ⟨hl.1, hl.2.1, fun i v hi => ?_⟩
  obtain ⟨h1, h2⟩ := zd_init av _ 0 i v hc hi
  rw [Nat.zero_add] at h1
  exact ⟨hc v h2, hl.2.2 (i, v) h1⟩
end ZX1
section ZX
variable {Zf : Nat → Nat → va_W → List (Option Value) → Nat → List Value → Prop} {l : Launch} {D : va_G} {cl : List vw_C} {tys : List (ClassId × FieldType)} {cc : ByteArray} {nL : Nat} {own : String} {Ts : List Cond} {R : Room} {ret : Option FieldType} {post : Option Value → va_W → Prop} {mc ms : Nat} {ini : Bool} {hh : Option (List (Nat × Nat × Nat × Nat))} {Y : State → Prop}
variable {ws : va_W} {L : List (Option Value)} {pc : Nat} {st : List Value} {nc ns : Nat}
theorem zd_X.E (X : zd_X Zf l D cl tys cc nL own Ts R ret post mc ms ini hh Y) (h1 : nc ≤ mc) (h2 : ns ≤ ms) : zd_E (Zf nc ns) l D cl tys cc nL own Ts R ret post := by
  obtain ⟨p, e, s, m, args, below, meth, c, A, Q, hB, hR, hQ, -, -, -, -, -, rfl⟩ := X
  exact ⟨p, e, s, m, args, below, meth, c, A, nc, ns, Q, hB, ⟨Nat.le_trans h1 hR.1, Nat.le_trans h2 hR.2⟩, fun t ht => hQ t (MQ_mono h1 h2 ht), rfl⟩
theorem zx_widen (X : zd_X Zf l D cl tys cc nL own Ts R ret post mc ms ini hh Y) {nc' ns' : Nat} (h1 : nc ≤ nc') (h2 : ns ≤ ns') (k : Zf nc' ns' ws L pc st) : Zf nc ns ws L pc st := by
  obtain ⟨p, e, s, m, args, below, meth, c, A, Q, hB, hR, hQ, -, -, -, -, -, rfl⟩ := X
  exact fun H locs ls hP hD hS hl => W.widen h1 h2 (k H locs ls hP hD hS hl)
/-- fewer cells, or in another order -/
theorem zx_sub (X : zd_X Zf l D cl tys cc nL own Ts R ret post mc ms ini hh Y) {ws' : va_W} (is : List Nat) (hn : va_nd is = true) (hs : is.map (fun i => ws[i]?) = ws'.map some) (k : Zf nc ns ws' L pc st) : Zf nc ns ws L pc st := by
  obtain ⟨p, e, s, m, args, below, meth, c, A, Q, hB, hR, hQ, -, -, -, -, -, rfl⟩ := X
  have hsP : is.filterMap (fun i => ws[i]?) = ws' := by
    have : ∀ (is : List Nat) (ws' : va_W), is.map (fun i => ws[i]?) = ws'.map some → is.filterMap (fun i => ws[i]?) = ws' := by
      intro is
      induction is with
      | nil => intro ws' h; cases ws' with
        | nil => rfl
        | cons x r => simp at h
      | cons i r ih =>
        intro ws' h
        cases ws' with
        | nil => simp at h
        | cons x t =>
          simp only [List.map_cons, List.cons.injEq] at h
          rw [List.filterMap_cons, h.1]
          exact congrArg (x :: ·) (ih t h.2)
    exact this is ws' hs
  exact fun H locs ls hP hD hS hl => k H locs ls (hP.sub is hsP) (hD.sub is hn hs) hS hl
theorem zx_new (X : zd_X Zf l D cl tys cc nL own Ts R ret post mc ms ini hh Y) {index ci N : Nat} {C : String} {T : u_T} {ty : Nat → FieldType} {fs : List Value} (d : decode cc pc = .ok (.new index, 3)) (hcl : Cond.classLink own index C ∈ Ts) (hins : Cond.instantiable C N ∈ Ts) (hini : Cond.initialized C ∈ Ts) (hc : cl[ci]? = some (C, T, N)) (hin : ∀ w ∈ u_ws C T N, w ∈ Ts) (hty : ∀ k, k < N → parseFieldDescriptor (T k).2.2.1 = some (ty k)) (hfs : ∀ j, j < N → defaultValue (ty j) = vp_V fs j) (h1 : nc + 1 ≤ mc) (h2 : ns + N ≤ ms)
    (k : ∀ q, Zf (nc + 1) (ns + N) ((q, .inr (ci, fs)) :: ws) L (pc + 3) (.ref q :: st)) : Zf nc ns ws L pc st := by
  obtain ⟨p, e, s, m, args, below, meth, c, A, Q, ⟨hx, hb, hml, hown, hts, hK, hr, hlk⟩, hR, hQ, hA, -, -, -, -, rfl⟩ := X
  exact fun H locs ls hP hD hS hl => va_new hx hb hts hin ty hty hown (hts _ hcl) (hts _ hins) (hts _ hini) hK hP hD hS hA hc hfs (Nat.le_trans h1 hR.1) (Nat.le_trans h2 hR.2) d (fun q H1 hP1 hD1 hS1 => k q H1 locs ls (zx_front hP1) (zx_frontD hD1) hS1 hl)
theorem zx_newa (X : zd_X Zf l D cl tys cc nL own Ts R ret post mc ms ini hh Y) {atype : ArrayType} {ty : FieldType} {t0 N : Nat} {cA : ClassId} {n : Int32} {a0 : vp_A} (d : decode cc pc = .ok (.newarray atype, 2)) (harr : Cond.arrayClass ty ∈ Ts) (hty : newarray.typeOf atype = ty) (hra : ∀ (U : State) (c : ClassId), va_RA U c ty → U.vm.findClass ("[" ++ ty.toString) = some c) (ht : tys[t0]? = some (cA, ty)) (ha : ∀ cA : ClassId, vp_cell cA a0 = arrV cA N (fun _ => defaultValue ty)) (hn : n = nI N) (hN : N < 100000) (hby : componentBytes ty ≤ 8) (h1 : nc + 1 ≤ mc) (h2 : ns + N ≤ ms)
    (k : ∀ q, Zf (nc + 1) (ns + N) ((q, .inl (cA, a0)) :: ws) L (pc + 2) (.ref q :: st)) : Zf nc ns ws L pc (.int n :: st) := by
  obtain ⟨p, e, s, m, args, below, meth, c, A, Q, ⟨hx, hb, hml, hown, hts, hK, hr, hlk⟩, hR, hQ, hA, -, -, -, -, rfl⟩ := X
  subst hn
  have hNb : N * componentBytes ty ≤ 536870912 := Nat.le_trans (Nat.mul_le_mul_left N hby) (by omega)
  intro H locs ls hP hD hS hl
  refine va_newa (N' := N) (a0 := a0) hx hb (by rw [hty]; exact hts _ harr) hty hK hP hD hS hA ha (nI_pos (by omega)) (nI_clamp (by omega)) hNb (Nat.le_trans h1 hR.1) (Nat.le_trans h2 hR.2) d (fun q cA' H1 hK1 hP1 hD1 hS1 => ?_)
  have e1 := hra s cA ((hK.2 t0 _ ht).2)
  have e2 := hra s cA' ((hK1.2 tys.length (cA', ty) (by simp)).2)
  cases e1.symm.trans e2
  exact k q H1 locs ls (zx_front hP1) (zx_frontD hD1) hS1 hl
/-- a final field of a reference, in a constructor -/
theorem zx_putF (X : zd_X Zf l D cl tys cc nL own Ts R ret post mc ms true hh Y) {index ci i a b : Nat} {C : String} {T : u_T} {N : Nat} {ty0 : Nat → FieldType} {ty : FieldType} {fs : List Value} {ws1 : va_W} (d : decode cc pc = .ok (.putfield index, 3)) (hc : cl[ci]? = some (C, T, N)) (hin : ∀ w ∈ u_ws C T N, w ∈ Ts) (hty : ∀ k, k < N → parseFieldDescriptor (T k).2.2.1 = some (ty0 k)) (hnm : ∀ a, a < N → ∀ b, b < N → a ≠ b → (T a).2.1 ≠ (T b).2.1) (hk : i < N) (hlink : Cond.fieldLink own index (T i).1 (T i).2.1 (T i).2.2.1 ∈ Ts) (hfin : (T i).2.2.2 = true) (hdecl : (T i).1 = own) (hpd : parseFieldDescriptor (T i).2.2.1 = some ty) (href : narrow ty (.ref b) = .ref b ∧ fits ty (.ref b) = true) (j : Nat) (he : ws[j]? = some (a, .inr (ci, fs))) (hl0 : i < fs.length) (hw : ws.set j (a, .inr (ci, fs.set i (.ref b))) = ws1)
    (k : Zf nc ns ws1 L (pc + 3) st) : Zf nc ns ws L pc (.ref b :: .ref a :: st) := by
  obtain ⟨p, e, s, m, args, below, meth, c, A, Q, ⟨hx, hb, hml, hown, hts, hK, hr, hlk⟩, hR, hQ, hA, -, hini, -, -, rfl⟩ := X
  subst hw
  exact fun H locs ls hP hD hS hl => va_putF hx hb hts hin ty0 hty hnm hown hK hP hD hS j he hc i hk (hts _ hlink) (fun _ h => h) hfin (hini rfl) hdecl hpd href.1 href.2 hl0 d (fun H1 locs1 hP1 hD1 hS1 => k H1 locs1 ls hP1 hD1 hS1 hl)
theorem zx_obj (X : zd_X Zf l D cl tys cc nL own Ts R ret post mc ms ini hh Y) {index a : Nat} (d : decode cc pc = .ok (.invokespecial index, 3)) (h1 : Cond.methodLink own index Lib.objectInit ∈ Ts) (h2 : Cond.instanceMethod Lib.objectInit ∈ Ts) (h3 : Cond.code Lib.objectInit ⟨#[0xb1]⟩ 1 none ∈ Ts) (hR : 1 ≤ R.frames ∧ 40 ≤ R.locals) (hW : (st.map fun v => v.category).sum ≤ 8) (k : Zf nc ns ws L (pc + 3) st) : Zf nc ns ws L pc (.ref a :: st) := by
  obtain ⟨p, e, s, m, args, below, meth, c, A, Q, ⟨hx, hb, hml, hown, hts, hK, hr, hlk⟩, -, hQ, hA, -, -, -, -, rfl⟩ := X
  exact fun H locs ls hP hD hS hl => W.objInit hx hb hown (hts _ h1) (hts _ h2) (hts _ h3) rfl (by rw [hml]; exact hl.1) rfl d hR.1 (by show 2 * 0 + _ + 12 ≤ _; omega) (W.eq (g2 := F0 _ (pc + 3) ls st) rfl (k H locs ls hP hD hS hl))
theorem zx_run {p : Program} {e : Env} {s : State} {m : MethodId} {args : Array Value} {below : List Frame} {meth : Method} {c : Code} {A : Nat → Prop} {H : Heap} {locs : List Loc} {ls : Array Slot} {st0 : List Value} {a : Array Value} {post1 : Option Value → va_W → Prop} {Q : State → Prop} {mc1 ms1 : Nat}
    (hr : va_Run p l e R s m args below meth c H locs nc ns mc1 ms1 (F0 m pc ls st0) st (zd_Q D cl tys (va_A ws H.size) post1 a) (va_A ws H.size)) (hD : va_D A ws) (hS : va_S A s.heap H locs) (hA : ∀ q, s.heap.size ≤ q → A q)
    (kk : ∀ (v : Option Value) (ws1 : va_W) (H1 : Heap) (locs1 : List Loc), post1 v ws1 → va_P D cl ws1 H1 → va_D A ws1 → va_S A s.heap H1 locs1 → W p l e R s m args below meth c H1 locs1 (nc + mc1) (ns + ms1) Q (F0 m (pc + 3) ls (v.toList ++ st))) : W p l e R s m args below meth c H locs nc ns Q (F0 m pc ls st0) := by
  intro T hT X
  obtain ⟨v, st₀, t, T', L1, h0, X', hL, e1, e2, ⟨⟨v1, ws1, hv, hp, hPw, hDw, hKw⟩, hz, hk⟩, go⟩ := hr T hT X
  cases hv
  rw [h0] at hz hk
  have hAA : ∀ q, va_A ws H.size q → A q := fun q h => by
    rcases h with ⟨k, e, hk⟩ | h
    · exact hD.2 k _ hk
    · exact hA q (Nat.le_trans hS.1 h)
  obtain ⟨t2, a1, b1⟩ := kk v ws1 T'.heap (locs ++ L1) hp (by rw [e1]; exact hPw) (hDw.weaken (fun k q _ hq => hAA _ hq))
    ⟨Nat.le_trans hS.1 (by rw [e1]; exact hz), fun q h1 h2 => by rw [e1, hk q (Nat.lt_of_lt_of_le h1 hS.1) (fun z => h2 (hAA q z))]; exact hS.2.1 q h1 h2, fun q hq => by
      rcases List.mem_append.mp hq with h | h
      · exact hS.2.2 q h
      · exact hAA _ (hL q h)⟩ T' rfl X'
  exact ⟨t2, go t2 a1, b1⟩
theorem zx_goodc {cw : Cond} (h : cw ∈ Ts) (g : goodWord cw = true) : GoodIn Ts (cw :: Ts.filter goodWord) := by
  intro w hw
  rcases List.mem_cons.mp hw with rfl | hw
  · exact ⟨h, good_of_word g⟩
  · obtain ⟨h1, h2⟩ := List.mem_filter.mp hw
    exact ⟨h1, good_of_word h2⟩
theorem zx_blind {av : List Value} {sz : Nat} (hY : zx_k Y) : FrameBlind (va_Pc av (fun U => U.heap.size = sz ∧ va_P D cl ws U.heap ∧ va_K D cl tys U ∧ va_D (fun _ => True) ws ∧ zd_N Ts U ∧ Y U)) := fun a U g mk q => by
  obtain ⟨q0, qs, qP, qK, qD, qN, qY⟩ := q
  exact ⟨q0, qs, qP, va_K.moved (u := U) (U := U.calling g mk a) (Vm.Alike.refl U.vm) qK, qD, zd_N.same (s := U) (U := U.calling g mk a) rfl qN, hY U (U.calling g mk a) ⟨State.WarmedH.refl U, fun _ _ h _ => h⟩ qY⟩
theorem zx_at {s : State} {H : Heap} {locs : List Loc} {av : List Value} {A : Nat → Prop} {args : Array Value} (hts : ∀ w ∈ Ts, w.before args s = true) (hP : va_P D cl ws H) (hK : va_K D cl tys s) (hD : va_D A ws) (hS : va_S A s.heap H locs) (hst : ∀ (q : Nat) (cell : Cell), A q → s.heap[q]? = some cell → cell.vm.isStatics = false) (hY : zx_k Y ∧ Y s) {Y1 : State → Prop} (hYY : ∀ U, Y U → Y1 U) : ∀ U : State, U.heap = H → s.WarmedH U.vm → va_Pc av (fun U => U.heap.size = H.size ∧ va_P D cl ws U.heap ∧ va_K D cl tys U ∧ va_D (fun _ => True) ws ∧ zd_N Ts U ∧ Y1 U) av.toArray U := fun U hU hW =>
  ⟨rfl, by rw [hU], by rw [hU]; exact hP, va_K.moved hW.alike hK, hD.weaken (fun _ _ _ _ => trivial), zd_N.warm hW (fun w hw hn => zd_nof hn (hts w hw)), hYY _ (hY.1 s U ⟨hW, fun q cell hq hs => by
    have hlt := (Array.getElem?_eq_some_iff.mp hq).1
    rw [hU, hS.2.1 q hlt (fun z => by rw [hst q cell z hq] at hs; cases hs)]
    exact hq⟩ hY.2)⟩
/-- a constructor's call -/
theorem zx_callI (X : zd_X Zf l D cl tys cc nL own Ts R ret post mc ms ini hh Y) {b index maxL n mc1 ms1 : Nat} {y : MethodName} {bytes : ByteArray} {rm : Room} {av st0 : List Value} {post1 : Option Value → va_W → Prop} {Y1 : State → Prop} (d : decode cc pc = .ok (.invokespecial index, 3)) (F : zd_C Ts own index y bytes maxL none n) (hst0 : st0 = av.reverse ++ .ref b :: st) (hy1 : y.name = "<init>") (hinst : Cond.instanceMethod y ∈ Ts) (hk1 : zx_k Y1) (hYY : ∀ U, Y U → Y1 U) (C : zx_Ct l D cl tys Ts y (.code y bytes maxL none) rm (.ref b :: av) ws post1 mc1 ms1 Y1) (hrm : rm.cells = mc1 ∧ rm.slots = ms1) (hR : rm.frames + 1 ≤ R.frames ∧ 40 + rm.locals ≤ R.locals) (h1 : nc + mc1 ≤ mc) (h2 : ns + ms1 ≤ ms) (hn : av.length = n) (hW : (st.map fun v => v.category).sum ≤ 8) (kk : ∀ (v : Option Value) (ws1 : va_W), post1 v ws1 → Zf (nc + mc1) (ns + ms1) ws1 L (pc + 3) (v.toList ++ st)) : Zf nc ns ws L pc st0 := by
  obtain ⟨p, e, s, m, args, below, meth, c, A, Q, ⟨hx, hb, hml, hown, hts, hK, hr, hlk⟩, hRc, hQ, hA, hsta, -, -, hY, rfl⟩ := X
  obtain ⟨hcode, hini, hmh, hpar, hmx, hlink | ⟨host, hlink⟩⟩ := F
  · exact fun H locs ls hP hD hS hl => zx_run (va_runI (As := av) (rest := st) ⟨hx, hb, hml, hown, hts⟩ (C H.size) ⟨callB_of n hts (zx_goodc hcode rfl) rfl hrm.1 hrm.2 (hts _ hini) (hts _ hlink) ⟨hmh.1, hmh.2, hpar⟩ ⟨hR.1, by omega⟩, hy1, hts _ hinst⟩ ⟨zx_blind hk1, zx_at hts hP hK hD hS hsta hY hYY⟩ rfl hn hl.1 hst0 (lv_room hW) d ⟨Nat.le_trans h1 hRc.1, Nat.le_trans h2 hRc.2⟩) hD hS hA (fun v ws1 H1 locs1 hp hP1 hD1 hS1 => kk v ws1 hp H1 locs1 ls hP1 hD1 hS1 hl)
  · exact fun H locs ls hP hD hS hl => zx_run (va_runIN (As := av) (rest := st) ⟨hx, hb, hml, hown, hts⟩ (C H.size) ⟨va_cnB n hts (zx_goodc hcode rfl) rfl hrm.1 hrm.2 (va_Nw.of rfl (hts _ hlink)) (hts _ hini) ⟨hmh.1, hmh.2, hpar⟩ ⟨hR.1, by omega⟩, hy1, hts _ hinst⟩ ⟨zx_blind hk1, zx_at hts hP hK hD hS hsta hY hYY⟩ rfl hn hl.1 hst0 (lv_room hW) d ⟨Nat.le_trans h1 hRc.1, Nat.le_trans h2 hRc.2⟩) hD hS hA (fun v ws1 H1 locs1 hp hP1 hD1 hS1 => kk v ws1 hp H1 locs1 ls hP1 hD1 hS1 hl)
/-- a static method with handlers -/
theorem zx_callW (X : zd_X Zf l D cl tys cc nL own Ts R ret post mc ms ini hh Y) {index maxL n mc1 ms1 : Nat} {y : MethodName} {bytes : ByteArray} {r1 : Option FieldType} {h1h : List (Nat × Nat × Nat × Nat)} {rm : Room} {av st0 : List Value} {post1 : Option Value → va_W → Prop} {Y1 : State → Prop} (d : decode cc pc = .ok (.invokestatic index, 3)) (hcode : Cond.codeWith y bytes maxL r1 h1h ∈ Ts) (hini : Cond.initialized y.cls ∈ Ts) (hmh : y.cls ≠ "java/lang/invoke/MethodHandle" ∧ y.cls ≠ "java/lang/invoke/VarHandle") (hpar : (parseMethodDescriptor y.desc).map (fun d => d.parameters.length) = some n) (hmx : maxL ≤ 21) (hlink : Cond.methodLink own index y ∈ Ts) (hst0 : st0 = av.reverse ++ st) (hstat : Cond.static y ∈ Ts) (hk1 : zx_k Y1) (hYY : ∀ U, Y U → Y1 U) (C : zx_Ct l D cl tys Ts y (.codeWith y bytes maxL r1 h1h) rm av ws post1 mc1 ms1 Y1) (hrm : rm.cells = mc1 ∧ rm.slots = ms1) (hR : rm.frames + 1 ≤ R.frames ∧ 40 + rm.locals ≤ R.locals) (h1 : nc + mc1 ≤ mc) (h2 : ns + ms1 ≤ ms) (hn : av.length = n) (hW : (st.map fun v => v.category).sum ≤ 8) (kk : ∀ (v : Option Value) (ws1 : va_W), post1 v ws1 → Zf (nc + mc1) (ns + ms1) ws1 L (pc + 3) (v.toList ++ st)) : Zf nc ns ws L pc st0 := by
  obtain ⟨p, e, s, m, args, below, meth, c, A, Q, ⟨hx, hb, hml, hown, hts, hK, hr, hlk⟩, hRc, hQ, hA, hsta, -, -, hY, rfl⟩ := X
  intro H locs ls hP hD hS hl
  have hrun : va_Run p l e R s m args below meth c H locs nc ns mc1 ms1 (F0 m pc ls st0) st (zd_Q D cl tys (va_A ws H.size) post1 av.toArray) (va_A ws H.size) := by
    have hB : Back l R p e below s args y 3 8 (PreOf R mc1 ms1 _) (PostOf (zd_Q D cl tys (va_A ws H.size) post1) mc1 ms1 (va_A ws H.size)) := va_backW (hh := h1h) (bytes := bytes) (maxL := maxL) (ret := r1) (C H.size) (zx_blind hk1) hrm.1 hrm.2 hR.1 (by omega) (pay_in hts (zx_goodc hcode rfl)) List.mem_cons_self (fun a' U hW => word_at hW (Or.inl rfl) (hts _ hini))
    obtain ⟨mk, methM, cM, hnamed, hmethM, -, -, -, -, -, -, hsigM⟩ := Cond.codeWith_spec (hts _ hcode)
    have hstatic : methM.isStatic = true := Cond.static_spec hnamed hmethM (hts _ hstat)
    obtain ⟨kP, hkP, -⟩ := className_of_methodNamed hnamed
    have hinitP : kP.init = .initialized := Cond.initialized_spec (findClass_of_methodNamed hnamed) hkP (hts _ hini)
    have hlen : av.length = methM.sig.parameters.length := by
      rw [hsigM] at hpar
      have := Option.some.inj hpar
      rw [hn]; exact this.symm
    intro T hT X
    obtain ⟨vm₁, X₁, hstep₁⟩ := X.invokestatic hx hown (hts _ hlink) hnamed hmethM hstatic hkP hinitP hmh (g := F0 m pc ls st0) rfl (argsL := av) (rest := st) hlen hst0 (by rw [hb]; exact d)
    obtain ⟨v, ⟨U', l2, c2, s2⟩, X', ⟨g', mk2, t, L, e1, e2, hq, q1, hL, q2, q3⟩, hsteps⟩ := hB m meth c ⟨T.setVm vm₁, locs, nc, ns⟩ (F0 m pc ls st) (.invokestatic index) mk av.toArray X₁ rfl (by rw [hml]; exact hl.1) (by rw [hb]; exact d) (lv_room hW) (X₁.named hnamed) ⟨Nat.le_trans h1 hRc.1, Nat.le_trans h2 hRc.2, zx_at hts hP hK hD hS hsta hY hYY (T.setVm vm₁) hT X₁.warmed⟩
    dsimp only [Pt.U, Pt.locs, Pt.cells, Pt.slots] at X' e1 e2 q1 q2 q3 hsteps
    subst q1; subst q2; subst q3
    exact ⟨v, (T.setVm vm₁).calling g' mk2 av.toArray, t, U', L, hT, X', hL, e1, e2, hq, fun target h => hstep₁ _ fun acts => by rw [doInvoke_state]; exact hsteps.trans h⟩
  exact zx_run hrun hD hS hA (fun v ws1 H1 locs1 hp hP1 hD1 hS1 => kk v ws1 hp H1 locs1 ls hP1 hD1 hS1 hl)
end ZX
