/-! Calls that throw: through a method without handlers; into a handler. -/
section TC
variable {l : Launch} {R : Room} {p : Program} {e : Env} {below : List Frame} {s : State} {args : Array Value} {m : MethodId} {meth : Method} {c : Code}
/-- a call whose callee throws: the note lies over this method's frame -/
theorem th_call {U : State} {locs : List Loc} {cells slots : Nat} (X : Stand p l e R s m args below meth c U locs cells slots) {y : MethodName} {wy : List Cond} {rm : Room} {Pc : Array Value → State → Prop} {Xn : String} (hM : MetFree l y (headSpec wy rm) Pc (fun _ _ _ _ _ => True) (th_Q Xn))
    {g : JFrame} {ig : Instr} {len : Nat} {mk : MethodId} {a : Array Value} {bytes : ByteArray} {maxL : Nat} {ret : Option FieldType} (hg : g.method = m) (hsize : g.locals.size = c.maxLocals) (hdg : decode c.code g.pc = .ok (ig, len)) (hW : 2 * g.monitorRoom + (g.stack.map fun v => v.category).sum ≤ 8) (hn : U.methodNamed? y = some mk)
    (hframes : rm.frames + 1 ≤ R.frames) (hlocals : 8 + (maxL + 11) + rm.locals ≤ R.locals) (hc0 : cells + rm.cells ≤ R.cells) (hs0 : slots + rm.slots ≤ R.slots)
    (hws : ∀ w ∈ wy, w.before a U = true) (hcode : (Cond.code y bytes maxL ret).before a U = true) (hinit : (Cond.initialized y.cls).before a U = true) (hP : Pc a (U.calling g mk a)) :
    ∃ (x : Nat) (T2 : State), Steps p.tables e below (doInvoke e (U.setTop g) [] mk a).1 ((T2.setTop g).pushFrame (.throwing x)) ∧ Stand p l e R s m args below meth c T2 locs (cells + 1) (slots + 6) ∧ (∃ ce : Cell, T2.heap[x]? = some ce ∧ U.vm.findClass Xn = some ce.cls ∧ ce.vm = .none) ∧ (∀ (q : Nat) (cell : Cell), U.heap[q]? = some cell → T2.heap[q]? = some cell) ∧ U.heap.size ≤ T2.heap.size ∧ U.WarmedH T2.vm := by
  subst hg
  obtain ⟨k, hk, -⟩ := className_of_methodNamed hn
  obtain ⟨mY, cY, q1, q2, -, q3, -⟩ := Cond.code_spec hn hcode
  have happ := Spec.appliesLoose_calling (S := headSpec wy rm) X.here hdg hn hk (Cond.initialized_spec (findClass_of_methodNamed hn) hk hinit) (X.room_calling (R' := rm) hsize q1 q2 hframes (by rw [q3]; omega) hc0 hs0) (atoms_intro hws)
  have hfr : (U.setTop g).frames = [.java g] ++ below := by rw [State.frames_setTop' g X.here.top, X.tail]; rfl
  obtain ⟨o, t, go, -, hend, x, rfl, ⟨ce, w1, w2, w3⟩, w4, w5⟩ := Steps.callFree hM p X.admits X.cas X.clock (acts := []) hfr happ hP trivial
  rw [hfr] at hend
  obtain ⟨T2, X2, hW2, hs2, rfl⟩ := X.outOfThrown rfl hend w4 w5
  rw [List.append_nil] at X2
  exact ⟨x, T2, go, X2, ⟨ce, by rw [← Stand.throwing_heap T2 g x]; exact w1, w2, w3⟩, fun q cell hq => th_same (t := T2.setVm U.vm) hs2 q cell hq, hs2.2.1, hW2⟩
/-- invokevirtual of a method that throws -/
theorem th_callV {T : State} {locs : List Loc} {cells slots : Nat} (S : Stand p l e R s m args below meth c T locs cells slots) {D : va_G} {cl : List vw_C} {tys : List (ClassId × FieldType)} {cc : ByteArray} {nL : Nat} {own : String} {Ts : List Cond} {ret : Option FieldType} {ws : va_W}
    (hB : zd_B p s m args meth c D cl tys cc nL own Ts ret) (hX : th_X s) (hst : ∀ (q : Nat) (cell : Cell), s.heap[q]? = some cell → cell.vm.isStatics = true → T.heap[q]? = some cell) (hP : va_P D cl ws T.heap) (hD : va_D (fun _ => True) ws)
    {ci b : Nat} {T1 : u_T} {N1 : Nat} {fs : List Value} {index maxL n : Nat} {y : MethodName} {bytes : ByteArray} {r1 : Option FieldType} {rm : Room} {av st st0 : List Value} {Xn : String} {pc : Nat} {ls : Array Slot} (hls : ls.size = nL) (d : decode cc pc = .ok (.invokevirtual index, 3)) (F : zd_C Ts own index y bytes maxL r1 n) (hlink : Cond.methodLink own index y ∈ Ts) (hst0 : st0 = av.reverse ++ .ref b :: st) (hinst : Cond.instanceMethod y ∈ Ts) (hsel : Cond.selects y.cls y y ∈ Ts) (j : Nat) (he : ws[j]? = some (b, .inr (ci, fs))) (hc : cl[ci]? = some (y.cls, T1, N1)) (C : th_Ct l D cl tys Ts y bytes maxL r1 rm (.ref b :: av) ws Xn) (hd : rm.frames + 1 ≤ R.frames ∧ 40 + rm.locals ≤ R.locals ∧ cells + rm.cells ≤ R.cells ∧ slots + rm.slots ≤ R.slots) (hn : av.length = n) (hW : (st.map fun v => v.category).sum ≤ 8) :
    ∃ (x : Nat) (T2 : State), (∀ target, Steps p.tables e below ((T2.setTop (F0 m pc ls st)).pushFrame (.throwing x)) target → Steps p.tables e below (T.setTop (F0 m pc ls st0)) target) ∧ Stand p l e R s m args below meth c T2 locs (cells + 1) (slots + 6) ∧ (∃ ce : Cell, T2.heap[x]? = some ce ∧ s.vm.findClass Xn = some ce.cls ∧ ce.vm = .none) ∧ (∀ (q : Nat) (cell : Cell), T.heap[q]? = some cell → T2.heap[q]? = some cell) ∧ T.heap.size ≤ T2.heap.size := by
  obtain ⟨hx, hb, hml, hown, hts, hK, hr, hlk⟩ := hB
  obtain ⟨hcode, hini, hmh, hpar, hmx, -⟩ := F
  obtain ⟨mk, methM, hnamed, hmethM, hstM, habM⟩ := Cond.instanceMethod_spec (hts _ hinst)
  obtain ⟨methM', cM, hmethM', -, -, -, -, -, -, hsigM⟩ := Cond.code_spec hnamed (hts _ hcode)
  cases hmethM.symm.trans hmethM'
  obtain ⟨cellB, hcB, hoB, hclB⟩ := va_recv hK hP hc he
  obtain ⟨c2, r2, m2, q1, q2, q3, q4, kP, hkP, hkPi⟩ := Cond.selects_spec (hts _ hsel)
  cases hclB.symm.trans q1
  cases (State.methodFound?_of_named hnamed hmh).symm.trans q2
  cases hnamed.symm.trans q3
  have hselP : selectMethod e.platform s.vm cellB.cls mk = .method mk := by rw [Launch.admits_selectMethod S.admits]; exact q4
  have hlen : av.length = methM.sig.parameters.length := by
    rw [hsigM] at hpar
    have := Option.some.inj hpar
    rw [hn]; exact this.symm
  obtain ⟨vm₁, X₁, hstep₁⟩ := S.invokevirtual hx hown (hts _ hlink) hnamed hmethM hstM hkP hkPi hmh (a := b) (cell := cellB) hcB (fun z h => by rw [h] at hoB; cases hoB) hselP hmethM habM hkP hkPi (g := F0 m pc ls st0) rfl (argsL := av) (rest := st) hlen hst0 (by rw [hb]; exact d)
  have hXU : th_X (T.setVm vm₁) := hX.keep ⟨X₁.warmed, hst⟩
  have hGood := zd_good hcode
  have hwsU : ∀ w ∈ zd_wy y bytes maxL r1 Ts, ∀ a' : Array Value, w.before a' (T.setVm vm₁) = true := fun w hw a' => pay_in hts hGood w hw a' _ X₁.warmed
  obtain ⟨x, T2, h1, h2, ⟨ce, h3, h4, h5⟩, h6, h7, h8⟩ := th_call X₁ C (g := F0 m pc ls st) (a := (Value.ref b :: av).toArray) (mk := mk) (bytes := bytes) (maxL := maxL) (ret := r1) rfl (by rw [hml]; exact hls) (by rw [hb]; exact d) (lv_room hW) (X₁.named hnamed) hd.1 (by omega) hd.2.2.1 hd.2.2.2 (fun w hw => hwsU w hw _) (hwsU _ List.mem_cons_self _) (word_at X₁.warmed (Or.inl rfl) (hts _ hini))
    ⟨rfl, hP, va_K.moved (u := s) (U := (T.setVm vm₁).calling (F0 m pc ls st) mk (Value.ref b :: av).toArray) X₁.warmed.alike hK, hD, zd_N.same (s := T.setVm vm₁) (U := (T.setVm vm₁).calling (F0 m pc ls st) mk (Value.ref b :: av).toArray) rfl (zd_N.warm X₁.warmed (fun w hw hn => zd_nof hn (hts w hw))), hXU.keep (U := (T.setVm vm₁).calling (F0 m pc ls st) mk (Value.ref b :: av).toArray) ⟨State.WarmedH.refl (T.setVm vm₁), fun _ _ h _ => h⟩⟩
  refine ⟨x, T2, fun target h => hstep₁ _ fun acts => by rw [doInvoke_state]; exact h1.trans h, h2, ⟨ce, h3, ?_, h5⟩, h6, h7⟩
  rw [← h4]
  exact (X₁.warmed.alike.findClass ..).symm
end TC
section TP
variable {Z : va_W → List (Option Value) → Nat → List Value → Prop} {l : Launch} {D : va_G} {cl : List vw_C} {tys : List (ClassId × FieldType)} {cc : ByteArray} {nL : Nat} {own : String} {Ts : List Cond} {R : Room} {ret : Option FieldType} {X : String}
variable {ws : va_W} {L : List (Option Value)} {pc : Nat} {st : List Value}
/-- the callee throws, and so does this method -/
theorem th_pass (hE : th_E Z l D cl tys cc nL own Ts R ret X) {ci b : Nat} {T1 : u_T} {N1 : Nat} {fs : List Value} {index maxL n da : Nat} {y : MethodName} {bytes : ByteArray} {r1 : Option FieldType} {av st0 : List Value} (d : decode cc pc = .ok (.invokevirtual index, 3)) (F : zd_C Ts own index y bytes maxL r1 n) (hlink : Cond.methodLink own index y ∈ Ts) (hst0 : st0 = av.reverse ++ .ref b :: st) (hinst : Cond.instanceMethod y ∈ Ts) (hsel : Cond.selects y.cls y y ∈ Ts) (j : Nat) (he : ws[j]? = some (b, .inr (ci, fs))) (hc : cl[ci]? = some (y.cls, T1, N1)) (C : th_Ct l D cl tys Ts y bytes maxL r1 (th_rm da) (.ref b :: av) ws X) (hd : da + 1 ≤ R.frames ∧ 40 * (da + 1) ≤ R.locals ∧ 1 ≤ R.cells ∧ 6 ≤ R.slots) (hn : av.length = n) (hW : (st.map fun v => v.category).sum ≤ 8) : Z ws L pc st0 := by
  obtain ⟨p, e, s, m, args, below, meth, c, hB, hem, hX, rfl⟩ := hE
  intro H locs ls hP hD hS hls T hT S
  obtain ⟨hSh, hSl⟩ := hS
  subst hSl
  subst hT
  obtain ⟨x, T2, h1, S2, ⟨ce, h3, h4, h5⟩, h6, h7⟩ := th_callV S hB hX (fun q cell hq _ => by rw [hSh]; exact hq) hP hD (ls := ls) hls.1 d F hlink hst0 hinst hsel j he hc C (show da + 1 ≤ R.frames ∧ 40 + 40 * da ≤ R.locals ∧ 0 + 1 ≤ R.cells ∧ 0 + 6 ≤ R.slots by omega) hn hW
  obtain ⟨hwalk, hrun, hended, hWU, hsame⟩ := S2.leaveThrown x (g := F0 m pc ls st) rfl rfl rfl (th_out hem _) hB.2.2.2.2.2.2.2
  exact ⟨_, h1 _ hwalk, .threw x, hrun, hended, x, rfl, ⟨ce, h3, h4, h5⟩, hWU, hsame⟩
end TP
