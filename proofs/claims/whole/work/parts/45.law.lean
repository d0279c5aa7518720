/-! THE CLAIM OUT OF ONE WALK OF THE LAW'S BODY. Your part is whole_start (and what it stands on); all else here is the same for every law, but numbers. -/
def R_law : String := "CutPlannerLaw"
def lw_P (b : Addr) (xs : List Int32) (args : Array Value) (s : State) : Prop := args = #[.ref b] ∧ s.IntsAt b xs ∧ xs.length ≤ 2048 ∧ (Jvm.Cond.and given_1 narrow_1).before args s = true
def lw_Q (_ : Array Value) (s : State) (o : Outcome) (t : State) : Prop := o = .returned (some (.int 1)) ∧ Framed s o t [] 601024 7293034
def lw_Z (below : List Frame) (a : Array Value) (s : State) : State → Prop := fun t => ∃ o, t.status = .running ∧ Ended t below o ∧ lw_Q a s o t
/-- the law's own end, with 1 on the stack, nothing written that was there before, its room as the claim has it -/
theorem lw_ret {p : Program} {l : Launch} {e : Env} {s : State} {m : MethodId} {below : List Frame} {meth : Method} {c : Code} {b : Nat} (hx : p.tables.exec = Jvm.exec) (hb : c.code = code) (hr : meth.sig.returnType = ret) (hlocks : meth.locks = false) {pc : Nat} {H : Heap} {ls : Array Slot} (hdg : decode code pc = .ok (.ireturn, 1)) : W p l e room_1 s m #[Value.ref b] below meth c H [] 601024 7293034 (lw_Z below #[Value.ref b] s) (F0 m pc ls [.int 1]) := by
  intro T hT X
  obtain ⟨fs, hret, hrun, hended, hW, hframe⟩ := X.leave (v := some (.int 1)) (hlocks := hlocks) (fun h => by rw [hr] at h; cases h)
  have hmeth' : T.vm.method? m = some meth := X.method'
  refine ⟨T.setFrames fs, ?_, .returned (some (.int 1)), hrun, hended, rfl, ⟨_, rfl⟩, hW, hframe⟩
  jvm_step X.here [X.here.top, hx, hb, hdg, hmeth', hr, ret, narrow_b1]
  (try refine ⟨rfl, ?_⟩); (try refine ⟨rfl, ?_⟩)
  first | (intro acts; rw [hret _ acts rfl rfl rfl]) | rw [hret _ _ rfl rfl rfl]
  exact Steps.refl _
/-- what holds at the law's entry: the machine, the code, the tables' words (any of lw_tbl by 'hts w (by decide +kernel)'), the script of L ints xs at the cell b, what the Statement gives of the start (any of its parts by flat_of_before) -/
def lw_At (p : Program) (s : State) (m : MethodId) (meth : Method) (c : Code) (b L : Nat) (xs : Nat → Int32) : Prop :=
  p.tables.exec = Jvm.exec ∧ c.code = code ∧ meth.sig.returnType = ret ∧ c.maxLocals = 7 ∧ s.vm.findClass R_law = some m.cls ∧ (∀ w ∈ lw_tbl, w.before #[Value.ref b] s = true) ∧ va_X b L xs s s.heap ∧ b < s.heap.size ∧ meth.locks = false ∧ (Jvm.Cond.and given_1 narrow_1).before #[Value.ref b] s = true
/-! What the words give of the state at the law's entry. -/
theorem lw_over {args : Array Value} {s : State} (h : (Cond.arrayOver (.array .int)).before args s = true) : mn_Y s := by
  have e1 : (FieldType.array .int).toString = "[I" := by decide
  have e2 : "[" ++ (FieldType.array .int).toString = "[[I" := by decide
  rw [Cond.before, Cond.holds, beq_iff_eq, Cond.value] at h
  obtain ⟨comp, h1, h⟩ := Option.bind_eq_some_iff.mp h
  obtain ⟨ci, h2, h⟩ := Option.bind_eq_some_iff.mp h
  obtain ⟨kA, h3, h4⟩ := Option.map_eq_some_iff.mp h
  have h5 := Array.of_findIdx?_eq_some h2
  rw [h3] at h5
  dsimp only at h5
  have h1 : s.vm.findClass (FieldType.array .int).toString = some comp := h1
  have key : ∀ k0 : Kind, kA.kind = k0 → kA.kind = .array comp (.array .int) ∧ s.vm.findClass ("[" ++ (FieldType.array .int).toString) = some ci := fun k0 e0 => by
    rw [e0] at h4 h5 ⊢
    cases k0 with
    | array a ty =>
      have h5 : (a == comp) = true := h5
      have h6 := Bool.and_eq_true_iff.mp h4
      exact ⟨by rw [eq_of_beq h5, of_decide_eq_true h6.1], of_decide_eq_true h6.2⟩
    | _ => exact absurd h4 Bool.false_ne_true
  obtain ⟨h7, h8⟩ := key _ rfl
  rw [e1] at h1
  rw [e2] at h8
  exact ⟨ci, comp, kA, h8, h3, h7, h1⟩
theorem lw_arrI {args : Array Value} {s : State} (h : (Cond.arrayClass .int).before args s = true) : ∃ c, ArrOfT s c .int ∧ va_RA s c .int := by
  obtain ⟨c, kA, comp, h1, h2, h3⟩ := Cond.arrayClass_spec h
  exact ⟨c, fun n z => ⟨fun k h => (by cases h), kA, h2, comp, h3⟩, h1⟩
theorem lw_arrZ {args : Array Value} {s : State} (h : (Cond.arrayClass .boolean).before args s = true) : ∃ c, ArrOfT s c .boolean ∧ va_RA s c .boolean := by
  obtain ⟨c, kA, comp, h1, h2, h3⟩ := Cond.arrayClass_spec h
  exact ⟨c, fun n z => ⟨fun k h => (by cases h), kA, h2, comp, h3⟩, h1⟩
theorem lw_arrJ {args : Array Value} {s : State} (h : (Cond.arrayClass .long).before args s = true) : ∃ c, ArrOfT s c .long ∧ va_RA s c .long := by
  obtain ⟨c, kA, comp, h1, h2, h3⟩ := Cond.arrayClass_spec h
  exact ⟨c, fun n z => ⟨fun k h => (by cases h), kA, h2, comp, h3⟩, h1⟩
theorem lw_arrA {s : State} (h : mn_Y s) : ∃ c, ArrOfT s c (.array .int) ∧ va_RA s c (.array .int) := by
  obtain ⟨c, comp, kA, h1, h2, h3, -⟩ := h
  have e2 : "[" ++ (FieldType.array .int).toString = "[[I" := by decide
  exact ⟨c, fun n z => ⟨fun k h => (by cases h), kA, h2, comp, h3⟩, by show s.vm.findClass ("[" ++ (FieldType.array .int).toString) = some c; rw [e2]; exact h1⟩
theorem lw_kn {args : Array Value} {s : State} (hg : ∀ w ∈ gd_T, w.before args s = true) (hY : mn_Y s) : ∃ (D : va_G) (k : Nat → ClassId), va_K D classes (wd_ty k) s := by
  obtain ⟨c0, i0, u0⟩ := u_known (C := R_P) (T := F_P) (N := 7) (n := 7) hg wi_P (hg _ (gd_in1 18 (by decide +kernel) (by decide +kernel)))
  obtain ⟨c1, i1, u1⟩ := u_known (C := R_T) (T := F_T) (N := 6) (n := 6) hg wi_T (hg _ (gd_in1 26 (by decide +kernel) (by decide +kernel)))
  obtain ⟨c2, i2, u2⟩ := u_known (C := R_R) (T := F_R) (N := 2) (n := 2) hg wi_R (hg _ (gd_in1 97 (by decide +kernel) (by decide +kernel)))
  obtain ⟨c3, i3, u3⟩ := u_known (C := R_S) (T := F_S) (N := 6) (n := 6) hg wi_S (hg _ (gd_in1 68 (by decide +kernel) (by decide +kernel)))
  obtain ⟨c4, i4, u4⟩ := u_known (C := R_V) (T := F_V) (N := 2) (n := 2) hg wi_V (hg _ (gd_in1 112 (by decide +kernel) (by decide +kernel)))
  obtain ⟨c5, i5, u5⟩ := u_known (C := R_U) (T := F_U) (N := 7) (n := 7) hg wi_U (hg _ (gd_in1 126 (by decide +kernel) (by decide +kernel)))
  obtain ⟨c6, i6, u6⟩ := u_known (C := R_M) (T := F_M) (N := 21) (n := 21) hg wi_M (hg _ (gd_in3 79 (by decide +kernel) (by decide +kernel)))
  obtain ⟨k0, a0⟩ := lw_arrI (hg _ ka_int)
  obtain ⟨k1, a1⟩ := lw_arrZ (hg _ ka_bool)
  obtain ⟨k2, a2⟩ := lw_arrA hY
  obtain ⟨k3, a3⟩ := lw_arrJ (hg _ ka_long)
  refine ⟨(fun i => [c0, c1, c2, c3, c4, c5, c6].getD i c0, fun i => [i0, i1, i2, i3, i4, i5, i6].getD i i0), fun i => [k0, k1, k2, k3].getD i k0, fun c q hq => ?_, fun c q hq => ?_⟩
  · match c, hq with
    | 0, hq => have e := Option.some.inj hq; subst e; exact u0
    | 1, hq => have e := Option.some.inj hq; subst e; exact u1
    | 2, hq => have e := Option.some.inj hq; subst e; exact u2
    | 3, hq => have e := Option.some.inj hq; subst e; exact u3
    | 4, hq => have e := Option.some.inj hq; subst e; exact u4
    | 5, hq => have e := Option.some.inj hq; subst e; exact u5
    | 6, hq => have e := Option.some.inj hq; subst e; exact u6
    | n + 7, hq => exact absurd (show (none : Option vw_C) = some q from hq) (by simp)
  · match c, hq with
    | 0, hq => have e := Option.some.inj hq; subst e; exact a0
    | 1, hq => have e := Option.some.inj hq; subst e; exact a1
    | 2, hq => have e := Option.some.inj hq; subst e; exact a2
    | 3, hq => have e := Option.some.inj hq; subst e; exact a3
    | n + 4, hq => exact absurd (show (none : Option (ClassId × FieldType)) = some q from hq) (by simp)
theorem lw_st {args : Array Value} {s : State} {k : Nat} {tx : String} (h1 : (Cond.stringRef "CutPlanner" k tx).before args s = true) (h2 : (Cond.exactly (.string "CutPlanner" k) "java/lang/String").before args s = true) : ∃ a, vk_R "CutPlanner" k tx a s := by
  obtain ⟨a, c, cell, kk, h, -⟩ := Cond.exactly_spec h2
  exact ⟨a, vk_R.of h1 h⟩
theorem lw_tab {args : Array Value} {s : State} (hts : ∀ w ∈ lw_tbl, w.before args s = true) {w : Cond} (i : Nat) (h : tables_1[i]? = some w) : w.before args s = true := hts w (List.mem_append_right _ (List.mem_of_getElem? h))
theorem lw_thX {args : Array Value} {s : State} (hts : ∀ w ∈ lw_tbl, w.before args s = true) (hn : ∀ w ∈ flatC (Jvm.Cond.and given_1 narrow_1), w.before args s = true) : th_X s := by
  have key : ∀ w ∈ th_ws, w.before args s = true := by
    unfold th_ws
    refine List.forall_mem_cons.mpr ⟨lw_tab hts 357 (by decide +kernel), ?_⟩
    refine List.forall_mem_cons.mpr ⟨lw_tab hts 441 (by decide +kernel), ?_⟩
    refine List.forall_mem_cons.mpr ⟨lw_tab hts 474 (by decide +kernel), ?_⟩
    refine List.forall_mem_cons.mpr ⟨lw_tab hts 359 (by decide +kernel), ?_⟩
    refine List.forall_mem_cons.mpr ⟨lw_tab hts 361 (by decide +kernel), ?_⟩
    refine List.forall_mem_cons.mpr ⟨lw_tab hts 363 (by decide +kernel), ?_⟩
    refine List.forall_mem_cons.mpr ⟨hn _ (by decide +kernel), ?_⟩
    refine List.forall_mem_cons.mpr ⟨hn _ (by decide +kernel), ?_⟩
    refine List.forall_mem_cons.mpr ⟨hn _ (by decide +kernel), ?_⟩
    refine List.forall_mem_cons.mpr ⟨lw_tab hts 382 (by decide +kernel), ?_⟩
    refine List.forall_mem_cons.mpr ⟨lw_tab hts 384 (by decide +kernel), ?_⟩
    refine List.forall_mem_cons.mpr ⟨hn _ (by decide +kernel), ?_⟩
    refine List.forall_mem_cons.mpr ⟨hn _ (by decide +kernel), ?_⟩
    exact fun _ h => absurd h List.not_mem_nil
  refine ⟨fun w hw => th_keep (th_wsok w hw) (th_kp.refl s) (key w hw), ?_⟩
  unfold th_sx
  refine List.forall_mem_cons.mpr ⟨lw_st (lw_tab hts 396 (by decide +kernel)) (hn _ (by decide +kernel)), ?_⟩
  refine List.forall_mem_cons.mpr ⟨lw_st (lw_tab hts 448 (by decide +kernel)) (hn _ (by decide +kernel)), ?_⟩
  refine List.forall_mem_cons.mpr ⟨lw_st (lw_tab hts 455 (by decide +kernel)) (hn _ (by decide +kernel)), ?_⟩
  refine List.forall_mem_cons.mpr ⟨lw_st (lw_tab hts 481 (by decide +kernel)) (hn _ (by decide +kernel)), ?_⟩
  refine List.forall_mem_cons.mpr ⟨lw_st (lw_tab hts 492 (by decide +kernel)) (hn _ (by decide +kernel)), ?_⟩
  refine List.forall_mem_cons.mpr ⟨lw_st (lw_tab hts 493 (by decide +kernel)) (hn _ (by decide +kernel)), ?_⟩
  refine List.forall_mem_cons.mpr ⟨lw_st (lw_tab hts 495 (by decide +kernel)) (hn _ (by decide +kernel)), ?_⟩
  refine List.forall_mem_cons.mpr ⟨lw_st (lw_tab hts 517 (by decide +kernel)) (hn _ (by decide +kernel)), ?_⟩
  refine List.forall_mem_cons.mpr ⟨lw_st (lw_tab hts 556 (by decide +kernel)) (hn _ (by decide +kernel)), ?_⟩
  exact fun _ h => absurd h List.not_mem_nil
/-- from the entry, for every script of at most 2048 ints, the law comes to its end with true -/
theorem whole_start {p : Program} {e : Env} {s : State} {m : MethodId} {below : List Frame} {meth : Method} {c : Code} (l : Launch) (htr : l.stackTraces = false) {b L : Nat} {xs : Nat → Int32} (hL : L ≤ 2048) (C0 : lw_At p s m meth c b L xs) : W p l e room_1 s m #[Value.ref b] below meth c s.heap [] 0 0 (lw_Z below #[Value.ref b] s) (entryFrame m ([Value.ref b] : List Value).toArray 7) := by
  obtain ⟨hx, hb, hr, hml, hown, hts, hX, hbl, hlk, hgv⟩ := C0
  have hn := flat_of_before _ hgv
  have hg : ∀ w ∈ gd_T, w.before #[Value.ref b] s = true := fun w hw => hts w (List.mem_filter.mp hw).1
  have hY : mn_Y s := lw_over (lw_tab hts 32 (by decide +kernel))
  have hT : th_X s := lw_thX hts hn
  obtain ⟨D, k, hK⟩ := lw_kn hg hY
  have hbA : ¬ s.heap.size ≤ b := Nat.not_le.mpr hbl
  have K : lw_K (fun nc ns => zd_W p l e room_1 s m #[Value.ref b] below meth c D classes (fun q => s.heap.size ≤ q) 7 nc ns (lw_Z below #[Value.ref b] s)) l D k b L xs := by
    refine ⟨htr, ⟨p, e, s, m, #[Value.ref b], below, meth, c, fun q => s.heap.size ≤ q, _, ⟨hx, hb, hml, hown, hg, hK, hr, hlk⟩, ⟨Nat.le_refl _, Nat.le_refl _⟩, fun t ht => ?_, fun q hq => hq, fun q cell hq hc => ?_, fun h => (by cases h), fun x h => (by cases h), ⟨fun s U hk h => ⟨th_Xk s U hk h.1, mn_Yk s U hk h.2⟩, hT, hY⟩, rfl⟩, ?_, ?_, hL⟩
    · obtain ⟨o, a1, a2, ⟨⟨v, ws, rfl, hp, -⟩, -⟩, J, ⟨b1, b2, b3⟩, b4⟩ := ht
      have hp : v = some (.int 1) := hp
      subst hp
      exact ⟨_, a1, a2, rfl, ⟨_, rfl⟩, b2, State.sameButNew.drop_fresh (L := []) (J := J) b3 b4⟩
    · have := (Array.getElem?_eq_some_iff.mp hc).1
      have hq : s.heap.size ≤ q := hq
      omega
    · intro nc ns ws Lc pc st j d hj kk H locs ls hP hD hS hl
      have e1 : (nI j).toNatClampNeg = j := nI_clamp (by omega)
      exact va_sld hx hb hX hbl hbA hS (vp_in_nI hj (by omega)) d (by rw [e1]; exact kk H locs ls hP hD hS hl)
    · intro nc ns ws Lc pc st d kk H locs ls hP hD hS hl
      exact va_slen hx hb hX hbl hbA hS d (kk H locs ls hP hD hS hl)
  have hen := lv_entry [Value.ref b] (n := 7) (Nat.le_of_ble_eq_true rfl)
  rw [lg_entry_eq]
  refine lw_start K s.heap [] _ (fun k q hk => by simp at hk) ⟨fun i j p q hi => by simp at hi, fun k q hk => by simp at hk⟩ va_S.rf ⟨hen.1, hen.2.1, fun i v hi => ?_⟩
  have hc0 : ∀ v ∈ [Value.ref b], v.category = 1 := fun v hv => by
    have : v = .ref b := by simpa using hv
    rw [this]; rfl
  obtain ⟨h1, h2⟩ := zd_init [Value.ref b] 6 0 i v hc0 hi
  rw [Nat.zero_add] at h1
  exact ⟨hc0 v h2, hen.2.2 (i, v) h1⟩
set_option maxHeartbeats 4000000 in
theorem lw_walk (l : Launch) (htr : l.stackTraces = false) (b : Addr) (xs : List Int32) : MetFree l x (headSpec (Jvm.Cond.code x code maxLocals ret :: tables_1) room_1) (lw_P b xs) (fun _ _ _ _ _ => True) lw_Q := by
  refine MetFree.of_bodyS (code := code) (maxLocals := maxLocals) (ret := ret) (by decide) ?_ ?_
  · intro args s m h hn
    obtain ⟨meth, c, h1, h2, h3, h4, h5, h6, -, -⟩ := Cond.code_spec hn (atoms_spec (ws := Jvm.Cond.code x code maxLocals ret :: tables_1) h _ List.mem_cons_self)
    exact ⟨meth, c, h1, h2, h3, h4, h5, h6⟩
  · intro p e s m args below meth c s₁ B hml0 hP _
    obtain ⟨rfl, hx, hbd, hgv⟩ := hP
    obtain ⟨scr, harrAt, hlist, hof, hsmall⟩ := hx
    obtain ⟨hcb, hkn, -, -⟩ := State.arrayAt?_spec harrAt
    have hown : s.vm.findClass R_law = some m.cls := findClass_of_methodNamed B.named
    have hts0 : ∀ c ∈ (Jvm.Cond.code x code maxLocals ret :: tables_1), c.before #[Value.ref b] s = true := atoms_spec (ws := Jvm.Cond.code x code maxLocals ret :: tables_1) B.pre
    have hts : ∀ w ∈ lw_tbl, w.before #[Value.ref b] s = true := k2_hts_sels lw_privs (fun w hw => hts0 w (List.mem_cons_of_mem _ hw)) lw_privs_ok
    have hml : c.maxLocals = 7 := B.maxLocals_eq (hts0 _ List.mem_cons_self)
    have X₀ : Stand p l e room_1 s m #[Value.ref b] below meth c s₁ [] 0 0 := Stand.of_body B
    have hh0 : s₁.heap = s.heap := by rw [B.state]; rfl
    have hsz : scr.slots.size = xs.length := by rw [← Array.length_toList, hlist, List.length_map]
    have hval : ∀ j : Nat, j < xs.length → scr.slots[j]? = some (.int (xs.getD j 0)) := fun j hj => by
      rw [← Array.getElem?_toList, hlist]
      simp [hj]
    have hbl : b < s.heap.size := (Array.getElem?_eq_some_iff.mp hcb).1
    have hX : va_X b xs.length (fun j => xs.getD j 0) s s.heap := ⟨scr, hcb, hof, hkn, hsz, hval⟩
    have K : W p l e room_1 s m #[Value.ref b] below meth c s₁.heap [] 0 0 (lw_Z below #[Value.ref b] s) (entryFrame m ([Value.ref b] : List Value).toArray 7) := by
      rw [hh0]
      exact whole_start l htr hbd ⟨B.exec, B.bytes, B.returns, hml, hown, hts, hX, hbl, B.notSynchronized, hgv⟩
    obtain ⟨t, a1, o, b1, b2, b3⟩ := K s₁ rfl X₀
    exact ⟨t, o, a1, b1, b2, b3⟩
theorem lw_pre_spec {args : Array Value} {s : State} (h : (Jvm.Cond.and given_1 narrow_1).before args s = true) (hr : rest_1_c.before args s = true) : ∃ (b : Addr) (xs : List Int32), lw_P b xs args s := by
  have hs := flat_of_before _ h
  have hq := flat_of_before _ hr
  have hc : (Cond.count 1).before args s = true := hs _ (by decide +kernel)
  have harr : (Cond.arrayOf (.arg 0) .int).before args s = true := hs _ (by decide +kernel)
  have hle : (Cond.le (.length (.arg 0)) (.int 2048)).before args s = true := hs _ (by decide +kernel)
  have hlen : (Cond.isInt (.length (.arg 0))).before args s = true := hq _ (by decide +kernel)
  have hall : (Cond.all (.arg 0) (.isInt (.elem (.arg 0) (.index 0)))).before args s = true := hq _ (by decide +kernel)
  obtain ⟨b, xs, hb, hx⟩ := State.ints_of_pre rfl harr hlen hall
  have hsm : xs.length < 2 ^ 31 := hx.choose_spec.2.2.2
  have hev : (Term.length (.arg 0)).eval args s none [] s = some (.int xs.length.toInt32) := hx.length_eval hb
  have hv := Cond.le_ints hev (show (Term.int 2048).eval args s none [] s = some (.int 2048) from rfl)
  have hd : xs.length.toInt32 ≤ 2048 := by
    simpa [Cond.before, Cond.holds, hv] using hle
  have hN : xs.length ≤ 2048 := (Int32.ofNat_le_ofNat hsm (by decide)).mp (show Int32.ofNat xs.length ≤ Int32.ofNat 2048 from hd)
  exact ⟨b, xs, Cond.one_arg hc (show args[0]? = some (.ref b) from hb), hx, hN, h⟩
theorem lw_comes (l : Launch) (htr : l.stackTraces = false) : Comes l x (Jvm.Cond.code x code maxLocals ret :: tables_1) room_1 (fun tb e args s => Calls_1 tb e args s ∧ rest_1 tb e args s ∧ Pre_1 tb e args s)
    (fun _ _ args s o t => lw_Q args s o t) := by
  intro p e ha hc hk s m args below hf hfit hheap happ hpre
  obtain ⟨b, xs, hP⟩ := lw_pre_spec hpre.2.2 hpre.2.1
  obtain ⟨k, o, h1, h2, h3, hQ⟩ := lw_walk l htr b xs p e ha hc hk s m args below hf ((Spec.applies_iff_loose hf).mp happ).1 hP trivial
  exact ⟨k, o, h1, h2, h3, hQ⟩
theorem lw_frame {s t : State} {o : Outcome} {args : Array Value} (h : Framed s o t [] 601024 7293034) :
    Framed s o t (fieldLocs frame_1_writes args s ++ arrayLocs frame_1_arrays args s ++ staticLocs frame_1_statics s) 601024 7293034 := h
theorem lw_limb (L : Cond) (hL : ∀ (args : Array Value) (s t : State), L.after args s (.returned (some (.int 1))) t = true) :
    ArmFor flags0 classFile x code maxLocals ret World_1 tables_1 room_1 Calls_1 rest_1 Pre_1
      (fun tb e a s o t => postC L tb e a s o t ∧ Framed s o t (fieldLocs frame_1_writes a s ++ arrayLocs frame_1_arrays a s ++ staticLocs frame_1_statics s) 601024 7293034) := by
  intro l hfl _ _ p e ha hc hk s m args below hf hfit hheap happ hpre
  obtain ⟨k, o, h1, h2, h3, rfl, hF⟩ := lw_comes l (by unfold Launch.stackTraces; rw [hfl]; decide +kernel) p e ha hc hk s m args below hf hfit hheap happ hpre
  exact ⟨k, _, h1, h2, h3, hL args s _, lw_frame hF⟩
theorem i_vc : Claimed_1_1 ∧ Claimed_1_2 := ⟨lw_limb limb_1_1 (fun args s t => by simp [limb_1_1, Cond.after, Cond.holds, Cond.value]), lw_limb limb_1_2 (fun args s t => Cond.after_iff.mpr (by
  first | (rw [show limb_1_2 = Cond.eq .result (.int 1) from rfl, Cond.eq_ints (x := 1) (y := 1) rfl rfl]; simp; done) | (simp [limb_1_2, Cond.value, Term.eval]; done)))⟩
