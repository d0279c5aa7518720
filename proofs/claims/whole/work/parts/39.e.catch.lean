/-! Into a handler: the classes of the catch rows may not have been resolved yet. -/
theorem th_goCold {E : CtlPost} {e : Env} {d : Bool} {acts : List Action} {s : State} {f : JFrame} {a : Addr} {Q : Handler → Pre} {x : ExceptionTableEntry} {t : List ExceptionTableEntry} {c : ClassId} {vm' : Vm} (hx : covers x f.pc = true) (h0 : x.catchType ≠ 0)
    (hg : (Jvm.resolveClass f.method.cls x.catchType).Gives e.toSetting s.vm (.ok c) vm') (hr : vm'.classReady f.method.cls x.catchType c) (hsz : vm'.classes.size ≤ s.vm.classes.size) :
    wp (findHandler.go f a (x :: t)) Q E e d acts s ↔ wp (findHandler.go f a (x :: t)) Q E e d acts (s.setVm vm') := by
  simp only [covers] at hx
  obtain ⟨ha, ht⟩ := hg.op (op := VmOp.resolveClass f.method.cls x.catchType) rfl
  obtain ⟨k, hkd, hres⟩ := hr
  simp [findHandler.go, hx, h0, ha, ht, hsz, resolveClass_memo (vm := vm') e hkd hres, VmOp.dirties, VmOp.acts]
  exact Iff.rfl
/-- the search in a table of catch rows comes to the row at hpc: those before don't hold the pc, or name a class that an X isn't of -/
def th_fd (Ts : List Cond) (own Xn : String) (pc hpc : Nat) : List (Nat × Nat × Nat × Nat) → Prop
  | [] => False
  | r :: t => (r.1 ≤ pc ∧ pc < r.2.1 ∧ r.2.2.2 ≠ 0 ∧ ∃ C, Cond.classLink own r.2.2.2 C ∈ Ts ∧ ((C = Xn ∧ r.2.2.1 = hpc) ∨ (Cond.not (.castable Xn C) ∈ th_ws ∧ th_fd Ts own Xn pc hpc t)))
theorem th_go {e : Env} {s : State} {own Xn : String} {f : JFrame} {Ts : List Cond} {args : Array Value} {x : Addr} (hown : s.vm.findClass own = some f.method.cls) (hpl : e.platform.magicAccessors = ({} : Platform).magicAccessors) (hts : ∀ w ∈ Ts, w.before args s = true) (hX : th_X s) (hself : Cond.castable Xn Xn ∈ th_ws) :
    ∀ (es : List ExceptionTableEntry) (hpc : Nat), th_fd Ts own Xn f.pc hpc (es.map (fun h => (h.startPc, h.endPc, h.handlerPc, h.catchType))) → ∀ U : State, s.WarmedH U.vm → (∃ ce : Cell, U.heap[x]? = some ce ∧ s.vm.findClass Xn = some ce.cls ∧ ce.vm = .none) →
      ∃ vm', s.WarmedH vm' ∧ ∀ (Q : Handler → Pre) (E : CtlPost) (d : Bool) (acts : List Action), wp (findHandler.go f x es) Q E e d acts U ↔ Q (.found hpc) d acts (U.setVm vm') := by
  intro es
  induction es with
  | nil => intro hpc h; exact h.elim
  | cons r t ih =>
    intro hpc h U hWU hce
    obtain ⟨h1, h2, h3, C, hcl, hor⟩ := h
    obtain ⟨ce, hce1, hce2, hce3⟩ := id hce
    have hx : covers r f.pc = true := by
      have h1 : r.startPc ≤ f.pc := h1
      have h2 : f.pc < r.endPc := h2
      simp [covers, h1, h2]
    obtain ⟨cC, hfC, hcl2⟩ := Cond.classLink_spec hown (hts _ hcl) e.platform hpl
    obtain ⟨hg1, hw1, hr1⟩ := State.classEntry (e := e) hWU hcl2
    have hsz : (U.vm.noted f.method.cls r.catchType (.cls cC)).classes.size ≤ U.vm.classes.size := Nat.le_of_eq (Vm.size_noted ..)
    generalize U.vm.noted f.method.cls r.catchType (.cls cC) = vm₁ at hg1 hw1 hr1 hsz
    have hk : ∃ k, vm₁.classes[ce.cls]? = some k := Vm.classAt_of_findClass (name := Xn) (by rw [hw1.alike.findClass]; exact hce2)
    have hkC : ∃ k, vm₁.classes[cC]? = some k := Vm.classAt_of_findClass (name := C) (by rw [hw1.alike.findClass]; exact hfC)
    have key : ∀ (Q : Handler → Pre) (E : CtlPost) (d : Bool) (acts : List Action), wp (findHandler.go f x (r :: t)) Q E e d acts U ↔ if vm₁.assignable ce.cls cC = true then Q (.found r.handlerPc) d acts (U.setVm vm₁) else wp (findHandler.go f x t) Q E e d acts (U.setVm vm₁) := fun Q E d acts =>
      (th_goCold hx h3 hg1 hr1 hsz).trans (W.findHandler_go_class (s := U.setVm vm₁) hx h3 hr1 hce1 (fun k => by rw [hce3]; intro z; cases z) hk hkC)
    have hasg : vm₁.assignable ce.cls cC = s.vm.assignable ce.cls cC := hw1.alike.assignable ..
    rcases hor with ⟨rfl, h5⟩ | ⟨hno, h5⟩
    · obtain ⟨c3, c4, w1, w2, w3⟩ := Cond.castable_spec (hX.use hself #[])
      cases hce2.symm.trans w1
      cases hfC.symm.trans w2
      refine ⟨vm₁, hw1, fun Q E d acts => ?_⟩
      rw [key, if_pos (by rw [hasg]; exact w3)]
      have h5 : r.handlerPc = hpc := h5
      rw [h5]
    · have hn := hX.use hno #[]
      have hf : s.vm.assignable ce.cls cC = false := by
        simp only [Cond.before, Cond.holds, Cond.value, hce2, hfC] at hn
        simpa using hn
      obtain ⟨vm2, hw2, h6⟩ := ih hpc h5 (U.setVm vm₁) hw1 ⟨ce, hce1, hce2, hce3⟩
      refine ⟨vm2, hw2, fun Q E d acts => ?_⟩
      rw [key, if_neg (by rw [hasg, hf]; decide), h6]
      exact Iff.rfl
theorem th_do {α : Type} {e : Env} {s s0 : State} {t : Sem α} {x : α} {k : α → State → List Action → Out} (h : wp t (fun y _ as s1 => y = x ∧ s1 = s0 ∧ as = []) (fun _ _ _ => False) e false [] s) : ∃ as, vmDo e s [] t k = k x s0 as := by
  obtain ⟨as, h1, -⟩ := Sem.go_eq_ok (acts := []) h
  exact ⟨as, by rw [vmDo, h1]⟩
theorem th_land {e : Env} {s : State} {a : Addr} {f : JFrame} {r : List Frame} {pc : Nat} {vm' : Vm} (hfind : ∀ (Q : Handler → Pre) (E : CtlPost) (d : Bool) (acts : List Action), wp (findHandler f a) Q E e d acts s ↔ Q (.found pc) d acts (s.setVm vm')) : (stepThrowing e s a (.java f :: r)).1 = (s.setVm vm').setFrames (.java { f with pc := pc, stack := [.ref a] } :: r) := by
  rw [stepThrowing, searchFrame]
  refine (congrArg Prod.fst (th_do (x := Handler.found pc) (s0 := s.setVm vm') ?_).choose_spec).trans rfl
  simp [hfind]
theorem th_over {T : State} (ht : T.topJava?.isSome) (g g1 : JFrame) (n : Frame) (vm' : Vm) : (((T.setTop g).pushFrame n).setVm vm').setFrames (.java g1 :: T.frames.tail) = (T.setVm vm').setTop g1 := by
  obtain ⟨g0, h0⟩ := Option.isSome_iff_exists.mp ht
  obtain ⟨r, hr⟩ := State.topJava?_eq_some.mp h0
  have e1 : ∀ (V : State) (F F1 F2 : List Frame), ((((V.setFrames F).setFrames F1).setVm vm').setFrames F2) = (V.setVm vm').setFrames F2 := fun V F F1 F2 => by
    rw [State.setFrames_setFrames]
    exact State.setFrames_setFrames (V.setVm vm') F1 F2
  have e2 : (T.setVm vm').setTop g1 = (T.setVm vm').setFrames (.java g1 :: r) := State.setTop_of_frames (s := T.setVm vm') g1 hr
  rw [e2, State.pushFrame, State.setTop_of_frames g hr, hr]
  exact e1 T _ _ _
theorem th_caught {tb : Tables} {e : Env} {T target : State} {g : JFrame} {c : Code} {below : List Frame} {a : Addr} {vm' : Vm} (h : At T g.method c below) {pc : Nat} (hfind : ∀ (Q : Handler → Pre) (E : CtlPost) (d : Bool) (acts : List Action), wp (findHandler g a) Q E e d acts ((T.setTop g).pushFrame (.throwing a)) ↔ Q (.found pc) d acts (((T.setTop g).pushFrame (.throwing a)).setVm vm'))
    (hrest : Steps tb e below ((T.setVm vm').setTop { g with pc := pc, stack := [.ref a] }) target) : Steps tb e below ((T.setTop g).pushFrame (.throwing a)) target := by
  have hs := stepThread_throwing (tb := tb) (e := e) (frames_entered (g := g) h.top (.throwing a))
  refine Steps.head (h.throwing a).1 (h.throwing a).2 ?_
  rw [hs, th_land hfind, th_over h.top]
  exact hrest
section ZC
variable {Zf : Nat → Nat → va_W → List (Option Value) → Nat → List Value → Prop} {l : Launch} {D : va_G} {cl : List vw_C} {tys : List (ClassId × FieldType)} {cc : ByteArray} {nL : Nat} {own : String} {Ts : List Cond} {R : Room} {ret : Option FieldType} {post : Option Value → va_W → Prop} {mc ms : Nat} {ini : Bool} {hh : List (Nat × Nat × Nat × Nat)} {Y : State → Prop}
variable {ws : va_W} {L : List (Option Value)} {pc : Nat} {st : List Value} {nc ns : Nat}
/-- the callee throws an X, and a handler of this method's takes it -/
theorem zx_catch (X : zd_X Zf l D cl tys cc nL own Ts R ret post mc ms ini (some hh) Y) {ci b : Nat} {T1 : u_T} {N1 : Nat} {fs : List Value} {index maxL n da hpc : Nat} {y : MethodName} {bytes : ByteArray} {r1 : Option FieldType} {av st0 : List Value} {Xn : String} (d : decode cc pc = .ok (.invokevirtual index, 3)) (F : zd_C Ts own index y bytes maxL r1 n) (hlink : Cond.methodLink own index y ∈ Ts) (hst0 : st0 = av.reverse ++ .ref b :: st) (hinst : Cond.instanceMethod y ∈ Ts) (hsel : Cond.selects y.cls y y ∈ Ts) (j : Nat) (he : ws[j]? = some (b, .inr (ci, fs))) (hc : cl[ci]? = some (y.cls, T1, N1)) (hYX : ∀ U, Y U → th_X U) (C : th_Ct l D cl tys Ts y bytes maxL r1 (th_rm da) (.ref b :: av) ws Xn) (hd : da + 1 ≤ R.frames ∧ 40 * (da + 1) ≤ R.locals) (h1 : nc + 1 ≤ mc) (h2 : ns + 6 ≤ ms) (hn : av.length = n) (hW : (st.map fun v => v.category).sum ≤ 8) (hself : Cond.castable Xn Xn ∈ th_ws) (hfd : th_fd Ts own Xn pc hpc hh)
    (kk : ∀ x, Zf (nc + 1) (ns + 6) ws L hpc [.ref x]) : Zf nc ns ws L pc st0 := by
  obtain ⟨p, e, s, m, args, below, meth, c, A, Q, hB, hRc, hQ, hA, hsta, -, htab, hY, rfl⟩ := X
  intro H locs ls hP hD hS hl T hT S
  subst hT
  have hXs := hYX s hY.2
  obtain ⟨x, T2, g1, S2, hce, g6, g7⟩ := th_callV S hB hXs (fun q cell hq hs => by
    have hlt := (Array.getElem?_eq_some_iff.mp hq).1
    rw [hS.2.1 q hlt (fun z => by rw [hsta q cell z hq] at hs; cases hs)]
    exact hq) hP (hD.weaken (fun _ _ _ _ => trivial)) (ls := ls) hl.1 d F hlink hst0 hinst hsel j he hc C (show da + 1 ≤ R.frames ∧ 40 + 40 * da ≤ R.locals ∧ nc + 1 ≤ R.cells ∧ ns + 6 ≤ R.slots by omega) hn hW
  have hpl : e.platform.magicAccessors = ({} : Platform).magicAccessors := by rw [S.admits.platform]
  have hS2h : ((T2.setTop (F0 m pc ls st)).pushFrame (.throwing x)).heap = T2.heap := Stand.throwing_heap _ _ _
  have hS2v : ((T2.setTop (F0 m pc ls st)).pushFrame (.throwing x)).vm = T2.vm := Stand.throwing_vm _ _ _
  obtain ⟨vm', hw', hfind⟩ := th_go (e := e) (f := F0 m pc ls st) (x := x) hB.2.2.2.1 hpl hB.2.2.2.2.1 hXs hself c.exceptionTable.toList hpc (by rw [htab hh rfl]; exact hfd) ((T2.setTop (F0 m pc ls st)).pushFrame (.throwing x)) (by rw [hS2v]; exact S2.warmed) (by rw [hS2h]; exact hce)
  have S3 := S2.noted hw'
  have hold : ∀ q, q < T.heap.size → T2.heap[q]? = T.heap[q]? := fun q hq => by
    have e1 : T.heap[q]? = some T.heap[q] := Array.getElem?_eq_getElem hq
    rw [g6 q _ e1, e1]
  have hP2 : va_P D cl ws T2.heap := hP.kept (fun k q hk => hold q.1 ((hP k q hk).lt))
  have hS3 : va_S A s.heap T2.heap locs := ⟨Nat.le_trans hS.1 g7, fun q q1 q2 => by rw [hold q (Nat.lt_of_lt_of_le q1 hS.1)]; exact hS.2.1 q q1 q2, hS.2.2⟩
  obtain ⟨t, a1, b1⟩ := kk x T2.heap locs ls hP2 hD hS3 hl (T2.setVm vm') rfl S3
  refine ⟨t, g1 t (th_caught (c := c) S2.here (fun Q E d acts => ?_) a1), b1⟩
  rw [W.findHandler_eq (meth := meth) (code := c) (by rw [hS2v]; exact S2.method') S2.code]
  exact hfind Q E d acts
end ZC
