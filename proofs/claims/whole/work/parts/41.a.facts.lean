/-! What the constructors' rows ask of the tables. -/
def zx_FF (cl : List vw_C) (Ts : List Cond) (own : String) (index ci i : Nat) (ty : FieldType) : Prop :=
  ∃ (C : String) (T : u_T) (N : Nat) (ty0 : Nat → FieldType), cl[ci]? = some (C, T, N) ∧ (∀ w ∈ u_ws C T N, w ∈ Ts) ∧ (∀ k, k < N → parseFieldDescriptor (T k).2.2.1 = some (ty0 k)) ∧ (∀ a, a < N → ∀ b, b < N → a ≠ b → (T a).2.1 ≠ (T b).2.1) ∧ i < N ∧ Cond.fieldLink own index (T i).1 (T i).2.1 (T i).2.2.1 ∈ Ts ∧ (T i).2.2.2 = true ∧ (T i).1 = own ∧ parseFieldDescriptor (T i).2.2.1 = some ty
def zx_NN (cl : List vw_C) (Ts : List Cond) (own : String) (index ci N : Nat) (fs : List Value) : Prop :=
  ∃ (C : String) (T : u_T) (ty : Nat → FieldType), Cond.classLink own index C ∈ Ts ∧ Cond.instantiable C N ∈ Ts ∧ Cond.initialized C ∈ Ts ∧ cl[ci]? = some (C, T, N) ∧ (∀ w ∈ u_ws C T N, w ∈ Ts) ∧ (∀ k, k < N → parseFieldDescriptor (T k).2.2.1 = some (ty k)) ∧ ∀ j, j < N → defaultValue (ty j) = vp_V fs j
def zx_rm (d mc ms : Nat) : Room := { frames := d, cells := mc, slots := ms, locals := 40 * d }
section ZN
variable {Zf : Nat → Nat → va_W → List (Option Value) → Nat → List Value → Prop} {l : Launch} {D : va_G} {cl : List vw_C} {tys : List (ClassId × FieldType)} {cc : ByteArray} {nL : Nat} {own : String} {Ts : List Cond} {R : Room} {ret : Option FieldType} {post : Option Value → va_W → Prop} {mc ms : Nat} {ini : Bool} {hh : Option (List (Nat × Nat × Nat × Nat))} {Y : State → Prop}
variable {ws : va_W} {L : List (Option Value)} {pc : Nat} {st : List Value} {nc ns : Nat}
theorem zx_newN (X : zd_X Zf l D cl tys cc nL own Ts R ret post mc ms ini hh Y) {index ci N : Nat} {fs : List Value} (d : decode cc pc = .ok (.new index, 3)) (F : zx_NN cl Ts own index ci N fs) (h1 : nc + 1 ≤ mc) (h2 : ns + N ≤ ms) (k : ∀ q, Zf (nc + 1) (ns + N) ((q, .inr (ci, fs)) :: ws) L (pc + 3) (.ref q :: st)) : Zf nc ns ws L pc st := by
  obtain ⟨C, T, ty, f1, f2, f3, f4, f5, f6, f7⟩ := F
  exact zx_new X d f1 f2 f3 f4 f5 f6 f7 h1 h2 k
theorem zx_putN (X : zd_X Zf l D cl tys cc nL own Ts R ret post mc ms true hh Y) {index ci i a b : Nat} {ty : FieldType} {fs : List Value} {ws1 : va_W} (d : decode cc pc = .ok (.putfield index, 3)) (F : zx_FF cl Ts own index ci i ty) (href : narrow ty (.ref b) = .ref b ∧ fits ty (.ref b) = true) (j : Nat) (he : ws[j]? = some (a, .inr (ci, fs))) (hl0 : i < fs.length) (hw : ws.set j (a, .inr (ci, fs.set i (.ref b))) = ws1) (k : Zf nc ns ws1 L (pc + 3) st) : Zf nc ns ws L pc (.ref b :: .ref a :: st) := by
  obtain ⟨C, T, N, ty0, f1, f2, f3, f4, f5, f6, f7, f8, f9⟩ := F
  exact zx_putF X d f1 f2 f3 f4 f5 f6 f7 f8 f9 href j he hl0 hw k
theorem zx_newI (X : zd_X Zf l D cl tys cc nL own Ts R ret post mc ms ini hh Y) {N : Nat} {k0 : ClassId} {n : Int32} (d : decode cc pc = .ok (.newarray .int, 2)) (harr : Cond.arrayClass .int ∈ Ts) (ht : tys[0]? = some (k0, .int)) (hn : n = nI N) (hN : N < 100000) (h1 : nc + 1 ≤ mc) (h2 : ns + N ≤ ms) (k : ∀ q, Zf (nc + 1) (ns + N) ((q, .inl (k0, N, .inl (fun _ => 0))) :: ws) L (pc + 2) (.ref q :: st)) : Zf nc ns ws L pc (.int n :: st) :=
  zx_newa X d harr rfl (fun _ _ h => h) ht (fun cA => by rw [vp_cell_i]; rfl) hn hN (by decide) h1 h2 k
theorem zx_newZ (X : zd_X Zf l D cl tys cc nL own Ts R ret post mc ms ini hh Y) {N : Nat} {k0 : ClassId} {n : Int32} (d : decode cc pc = .ok (.newarray .boolean, 2)) (harr : Cond.arrayClass .boolean ∈ Ts) (ht : tys[1]? = some (k0, .boolean)) (hn : n = nI N) (hN : N < 100000) (h1 : nc + 1 ≤ mc) (h2 : ns + N ≤ ms) (k : ∀ q, Zf (nc + 1) (ns + N) ((q, .inl (k0, N, .inl (fun _ => 0))) :: ws) L (pc + 2) (.ref q :: st)) : Zf nc ns ws L pc (.int n :: st) :=
  zx_newa X d harr rfl (fun _ _ h => h) ht (fun cA => by rw [vp_cell_i]; rfl) hn hN (by decide) h1 h2 k
theorem zx_newL (X : zd_X Zf l D cl tys cc nL own Ts R ret post mc ms ini hh Y) {N : Nat} {k0 : ClassId} {n : Int32} (d : decode cc pc = .ok (.newarray .long, 2)) (harr : Cond.arrayClass .long ∈ Ts) (ht : tys[3]? = some (k0, .long)) (hn : n = nI N) (hN : N < 100000) (h1 : nc + 1 ≤ mc) (h2 : ns + N ≤ ms) (k : ∀ q, Zf (nc + 1) (ns + N) ((q, .inl (k0, N, .inr (.inl (fun _ => 0)))) :: ws) L (pc + 2) (.ref q :: st)) : Zf nc ns ws L pc (.int n :: st) :=
  zx_newa X d harr rfl (fun _ _ h => h) ht (fun cA => by rw [vp_cell_l]; rfl) hn hN (by decide) h1 h2 k
/-- a call that makes nothing, in any room -/
theorem zd_callSR {Z : va_W → List (Option Value) → Nat → List Value → Prop} (E : zd_E Z l D cl tys cc nL own Ts R ret post) {index maxL n da : Nat} {y : MethodName} {bytes : ByteArray} {r1 : Option FieldType} {av st0 : List Value} {post1 : Option Value → va_W → Prop} (d : decode cc pc = .ok (.invokestatic index, 3)) (F : zd_C Ts own index y bytes maxL r1 n) (hst : st0 = av.reverse ++ st) (hstat : Cond.static y ∈ Ts) (C : zd_Ct l D cl tys Ts y bytes maxL r1 (zd_rm da) av ws post1) (hd : da + 1 ≤ R.frames ∧ 40 * (da + 1) ≤ R.locals) (hn : av.length = n) (hW : (st.map fun v => v.category).sum ≤ 8) (kk : ∀ (v : Option Value) (ws1 : va_W), post1 v ws1 → Z ws1 L (pc + 3) (v.toList ++ st)) : Z ws L pc st0 := by
  obtain ⟨p, e, s, m, args, below, meth, c, A, nc, ns, Q, ⟨hx, hb, hml, hown, hts, hK, hr, hlk⟩, ⟨hnc, hns⟩, hQ, rfl⟩ := E
  obtain ⟨hcode, hini, hmh, hpar, hmx, hlink | ⟨host, hlink⟩⟩ := F
  · exact fun H locs ls hP hD hS hl => zd_run (va_runS (As := av) (rest := st) ⟨hx, hb, hml, hown, hts⟩ C ⟨callB_of n hts (zd_good hcode) rfl rfl rfl (hts _ hini) (hts _ hlink) ⟨hmh.1, hmh.2, hpar⟩ (show (zd_rm da).frames + 1 ≤ R.frames ∧ 8 + (maxL + 11) + (zd_rm da).locals ≤ R.locals from ⟨hd.1, by have := hd.2; show 8 + (maxL + 11) + 40 * da ≤ R.locals; omega⟩), hts _ hstat⟩ ⟨zd_blind, zd_at hts hP hK hD⟩ rfl hn hl.1 hst (lv_room hW) d ⟨hnc, hns⟩) hD hS (fun v ws1 H1 locs1 hp hP1 hD1 hS1 => kk v ws1 hp H1 locs1 ls hP1 hD1 hS1 hl)
  · exact fun H locs ls hP hD hS hl => zd_run (va_runSN (As := av) (rest := st) ⟨hx, hb, hml, hown, hts⟩ C ⟨va_cnB n hts (zd_good hcode) rfl rfl rfl (va_Nw.of rfl (hts _ hlink)) (hts _ hini) ⟨hmh.1, hmh.2, hpar⟩ (show (zd_rm da).frames + 1 ≤ R.frames ∧ 8 + (maxL + 11) + (zd_rm da).locals ≤ R.locals from ⟨hd.1, by have := hd.2; show 8 + (maxL + 11) + 40 * da ≤ R.locals; omega⟩), hts _ hstat, trivial⟩ ⟨zd_blind, zd_at hts hP hK hD⟩ rfl hn hl.1 hst (lv_room hW) d ⟨hnc, hns⟩) hD hS (fun v ws1 H1 locs1 hp hP1 hD1 hS1 => kk v ws1 hp H1 locs1 ls hP1 hD1 hS1 hl)
theorem zd_callVR {Z : va_W → List (Option Value) → Nat → List Value → Prop} (E : zd_E Z l D cl tys cc nL own Ts R ret post) {ci b : Nat} {T1 : u_T} {N1 : Nat} {fs : List Value} {index maxL n da : Nat} {y : MethodName} {bytes : ByteArray} {r1 : Option FieldType} {av st0 : List Value} {post1 : Option Value → va_W → Prop} (d : decode cc pc = .ok (.invokevirtual index, 3)) (F : zd_C Ts own index y bytes maxL r1 n) (hst : st0 = av.reverse ++ .ref b :: st) (hinst : Cond.instanceMethod y ∈ Ts) (hsel : Cond.selects y.cls y y ∈ Ts) (j : Nat) (he : ws[j]? = some (b, .inr (ci, fs))) (hc : cl[ci]? = some (y.cls, T1, N1)) (C : zd_Ct l D cl tys Ts y bytes maxL r1 (zd_rm da) (.ref b :: av) ws post1) (hd : da + 1 ≤ R.frames ∧ 40 * (da + 1) ≤ R.locals) (hn : av.length = n) (hW : (st.map fun v => v.category).sum ≤ 8) (kk : ∀ (v : Option Value) (ws1 : va_W), post1 v ws1 → Z ws1 L (pc + 3) (v.toList ++ st)) : Z ws L pc st0 := by
  obtain ⟨p, e, s, m, args, below, meth, c, A, nc, ns, Q, ⟨hx, hb, hml, hown, hts, hK, hr, hlk⟩, ⟨hnc, hns⟩, hQ, rfl⟩ := E
  obtain ⟨hcode, hini, hmh, hpar, hmx, hlink | ⟨host, hlink⟩⟩ := F
  · exact fun H locs ls hP hD hS hl => zd_run (va_runV (As := av) (rest := st) (C := y.cls) ⟨hx, hb, hml, hown, hts⟩ C ⟨callB_of n hts (zd_good hcode) rfl rfl rfl (hts _ hini) (hts _ hlink) ⟨hmh.1, hmh.2, hpar⟩ (show (zd_rm da).frames + 1 ≤ R.frames ∧ 8 + (maxL + 11) + (zd_rm da).locals ≤ R.locals from ⟨hd.1, by have := hd.2; show 8 + (maxL + 11) + 40 * da ≤ R.locals; omega⟩), hts _ hinst, hts _ hsel⟩ ⟨zd_blind, va_recv hK hP hc he, zd_at hts hP hK hD⟩ rfl hn hl.1 hst (lv_room hW) d ⟨hnc, hns⟩) hD hS (fun v ws1 H1 locs1 hp hP1 hD1 hS1 => kk v ws1 hp H1 locs1 ls hP1 hD1 hS1 hl)
  · exact fun H locs ls hP hD hS hl => zd_run (va_runVN (As := av) (rest := st) (C := y.cls) ⟨hx, hb, hml, hown, hts⟩ C ⟨va_cnB n hts (zd_good hcode) rfl rfl rfl (va_Nw.of rfl (hts _ hlink)) (hts _ hini) ⟨hmh.1, hmh.2, hpar⟩ (show (zd_rm da).frames + 1 ≤ R.frames ∧ 8 + (maxL + 11) + (zd_rm da).locals ≤ R.locals from ⟨hd.1, by have := hd.2; show 8 + (maxL + 11) + 40 * da ≤ R.locals; omega⟩), hts _ hinst, hts _ hsel⟩ ⟨zd_blind, va_recv hK hP hc he, zd_at hts hP hK hD⟩ rfl hn hl.1 hst (lv_room hW) d ⟨hnc, hns⟩) hD hS (fun v ws1 H1 locs1 hp hP1 hD1 hS1 => kk v ws1 hp H1 locs1 ls hP1 hD1 hS1 hl)
end ZN
theorem ko_P : Cond.methodLink "CutPlanner" 3 Lib.objectInit ∈ gd_T := gd_in1 22 (by decide +kernel) (by decide +kernel)
theorem kq_P_12 : zx_FF classes gd_T "CutPlanner" 12 0 0 (.object "CutPlanner$Task") := ⟨R_P, F_P, 7, ft_P, rfl, wi_P, to_P, n_P, by decide, gd_in1 156 (by decide +kernel) (by decide +kernel), rfl, rfl, by decide +kernel⟩
theorem kq_P_21 : zx_FF classes gd_T "CutPlanner" 21 0 1 (.object "CutPlanner$Search") := ⟨R_P, F_P, 7, ft_P, rfl, wi_P, to_P, n_P, by decide, gd_in1 157 (by decide +kernel) (by decide +kernel), rfl, rfl, by decide +kernel⟩
theorem kq_P_30 : zx_FF classes gd_T "CutPlanner" 30 0 2 (.object "CutPlanner$Row") := ⟨R_P, F_P, 7, ft_P, rfl, wi_P, to_P, n_P, by decide, gd_in1 158 (by decide +kernel) (by decide +kernel), rfl, rfl, by decide +kernel⟩
theorem kq_P_34 : zx_FF classes gd_T "CutPlanner" 34 0 3 (.object "CutPlanner$Row") := ⟨R_P, F_P, 7, ft_P, rfl, wi_P, to_P, n_P, by decide, gd_in1 159 (by decide +kernel) (by decide +kernel), rfl, rfl, by decide +kernel⟩
theorem kq_P_40 : zx_FF classes gd_T "CutPlanner" 40 0 4 (.object "CutPlanner$Levels") := ⟨R_P, F_P, 7, ft_P, rfl, wi_P, to_P, n_P, by decide, gd_in1 160 (by decide +kernel) (by decide +kernel), rfl, rfl, by decide +kernel⟩
theorem kq_P_49 : zx_FF classes gd_T "CutPlanner" 49 0 5 (.object "CutPlanner$Cuts") := ⟨R_P, F_P, 7, ft_P, rfl, wi_P, to_P, n_P, by decide, gd_in1 161 (by decide +kernel) (by decide +kernel), rfl, rfl, by decide +kernel⟩
theorem ko_T : Cond.methodLink "CutPlanner$Task" 3 Lib.objectInit ∈ gd_T := gd_in1 30 (by decide +kernel) (by decide +kernel)
theorem kq_T_9 : zx_FF classes gd_T "CutPlanner$Task" 9 1 0 (.array .int) := ⟨R_T, F_T, 6, ft_T, rfl, wi_T, to_T, n_T, by decide, gd_in1 33 (by decide +kernel) (by decide +kernel), rfl, rfl, by decide +kernel⟩
theorem kq_T_17 : zx_FF classes gd_T "CutPlanner$Task" 17 1 1 (.array (.array .int)) := ⟨R_T, F_T, 6, ft_T, rfl, wi_T, to_T, n_T, by decide, gd_in1 37 (by decide +kernel) (by decide +kernel), rfl, rfl, by decide +kernel⟩
theorem ko_R : Cond.methodLink "CutPlanner$Row" 1 Lib.objectInit ∈ gd_T := gd_in1 101 (by decide +kernel) (by decide +kernel)
theorem kq_R_7 : zx_FF classes gd_T "CutPlanner$Row" 7 2 0 (.array .int) := ⟨R_R, F_R, 2, ft_R, rfl, wi_R, to_R, n_R, by decide, gd_in1 102 (by decide +kernel) (by decide +kernel), rfl, rfl, by decide +kernel⟩
theorem ko_S : Cond.methodLink "CutPlanner$Search" 3 Lib.objectInit ∈ gd_T := gd_in1 72 (by decide +kernel) (by decide +kernel)
theorem kq_S_9 : zx_FF classes gd_T "CutPlanner$Search" 9 3 1 (.array .int) := ⟨R_S, F_S, 6, ft_S, rfl, wi_S, to_S, n_S, by decide, gd_in1 77 (by decide +kernel) (by decide +kernel), rfl, rfl, by decide +kernel⟩
theorem kq_S_15 : zx_FF classes gd_T "CutPlanner$Search" 15 3 2 (.array .int) := ⟨R_S, F_S, 6, ft_S, rfl, wi_S, to_S, n_S, by decide, gd_in1 78 (by decide +kernel) (by decide +kernel), rfl, rfl, by decide +kernel⟩
theorem kq_S_18 : zx_FF classes gd_T "CutPlanner$Search" 18 3 3 (.array .int) := ⟨R_S, F_S, 6, ft_S, rfl, wi_S, to_S, n_S, by decide, gd_in1 79 (by decide +kernel) (by decide +kernel), rfl, rfl, by decide +kernel⟩
theorem kq_S_21 : zx_FF classes gd_T "CutPlanner$Search" 21 3 4 (.array .int) := ⟨R_S, F_S, 6, ft_S, rfl, wi_S, to_S, n_S, by decide, gd_in1 80 (by decide +kernel) (by decide +kernel), rfl, rfl, by decide +kernel⟩
theorem kq_S_24 : zx_FF classes gd_T "CutPlanner$Search" 24 3 0 (.object "CutPlanner$Task") := ⟨R_S, F_S, 6, ft_S, rfl, wi_S, to_S, n_S, by decide, gd_in1 76 (by decide +kernel) (by decide +kernel), rfl, rfl, by decide +kernel⟩
theorem ko_V : Cond.methodLink "CutPlanner$Levels" 3 Lib.objectInit ∈ gd_T := gd_in1 116 (by decide +kernel) (by decide +kernel)
theorem kq_V_9 : zx_FF classes gd_T "CutPlanner$Levels" 9 4 1 (.array .int) := ⟨R_V, F_V, 2, ft_V, rfl, wi_V, to_V, n_V, by decide, gd_in1 118 (by decide +kernel) (by decide +kernel), rfl, rfl, by decide +kernel⟩
theorem kq_V_15 : zx_FF classes gd_T "CutPlanner$Levels" 15 4 0 (.object "CutPlanner$Task") := ⟨R_V, F_V, 2, ft_V, rfl, wi_V, to_V, n_V, by decide, gd_in1 117 (by decide +kernel) (by decide +kernel), rfl, rfl, by decide +kernel⟩
theorem ko_U : Cond.methodLink "CutPlanner$Cuts" 3 Lib.objectInit ∈ gd_T := gd_in1 130 (by decide +kernel) (by decide +kernel)
theorem kq_U_9 : zx_FF classes gd_T "CutPlanner$Cuts" 9 5 2 (.array .int) := ⟨R_U, F_U, 7, ft_U, rfl, wi_U, to_U, n_U, by decide, gd_in1 133 (by decide +kernel) (by decide +kernel), rfl, rfl, by decide +kernel⟩
theorem kq_U_15 : zx_FF classes gd_T "CutPlanner$Cuts" 15 5 3 (.array .int) := ⟨R_U, F_U, 7, ft_U, rfl, wi_U, to_U, n_U, by decide, gd_in1 134 (by decide +kernel) (by decide +kernel), rfl, rfl, by decide +kernel⟩
theorem kq_U_18 : zx_FF classes gd_T "CutPlanner$Cuts" 18 5 4 (.array .int) := ⟨R_U, F_U, 7, ft_U, rfl, wi_U, to_U, n_U, by decide, gd_in1 135 (by decide +kernel) (by decide +kernel), rfl, rfl, by decide +kernel⟩
theorem kq_U_21 : zx_FF classes gd_T "CutPlanner$Cuts" 21 5 0 (.object "CutPlanner$Task") := ⟨R_U, F_U, 7, ft_U, rfl, wi_U, to_U, n_U, by decide, gd_in1 131 (by decide +kernel) (by decide +kernel), rfl, rfl, by decide +kernel⟩
theorem kq_U_25 : zx_FF classes gd_T "CutPlanner$Cuts" 25 5 1 (.object "CutPlanner$Levels") := ⟨R_U, F_U, 7, ft_U, rfl, wi_U, to_U, n_U, by decide, gd_in1 132 (by decide +kernel) (by decide +kernel), rfl, rfl, by decide +kernel⟩
theorem ko_M : Cond.methodLink "CutPlannerModel" 1 Lib.objectInit ∈ gd_T := gd_in3 83 (by decide +kernel) (by decide +kernel)
theorem kq_M_7 : zx_FF classes gd_T "CutPlannerModel" 7 6 5 (.array .int) := ⟨R_M, F_M, 21, ft_M, rfl, wi_M, to_M, n_M, by decide, gd_in3 89 (by decide +kernel) (by decide +kernel), rfl, rfl, by decide +kernel⟩
theorem kq_M_13 : zx_FF classes gd_T "CutPlannerModel" 13 6 6 (.array .int) := ⟨R_M, F_M, 21, ft_M, rfl, wi_M, to_M, n_M, by decide, gd_in3 90 (by decide +kernel) (by decide +kernel), rfl, rfl, by decide +kernel⟩
theorem kq_M_16 : zx_FF classes gd_T "CutPlannerModel" 16 6 7 (.array .int) := ⟨R_M, F_M, 21, ft_M, rfl, wi_M, to_M, n_M, by decide, gd_in3 91 (by decide +kernel) (by decide +kernel), rfl, rfl, by decide +kernel⟩
theorem kq_M_19 : zx_FF classes gd_T "CutPlannerModel" 19 6 8 (.array .int) := ⟨R_M, F_M, 21, ft_M, rfl, wi_M, to_M, n_M, by decide, gd_in3 92 (by decide +kernel) (by decide +kernel), rfl, rfl, by decide +kernel⟩
theorem kq_M_22 : zx_FF classes gd_T "CutPlannerModel" 22 6 11 (.array .int) := ⟨R_M, F_M, 21, ft_M, rfl, wi_M, to_M, n_M, by decide, gd_in3 95 (by decide +kernel) (by decide +kernel), rfl, rfl, by decide +kernel⟩
theorem kq_M_25 : zx_FF classes gd_T "CutPlannerModel" 25 6 13 (.array .int) := ⟨R_M, F_M, 21, ft_M, rfl, wi_M, to_M, n_M, by decide, gd_in3 97 (by decide +kernel) (by decide +kernel), rfl, rfl, by decide +kernel⟩
theorem kq_M_28 : zx_FF classes gd_T "CutPlannerModel" 28 6 14 (.array .int) := ⟨R_M, F_M, 21, ft_M, rfl, wi_M, to_M, n_M, by decide, gd_in3 98 (by decide +kernel) (by decide +kernel), rfl, rfl, by decide +kernel⟩
theorem kq_M_31 : zx_FF classes gd_T "CutPlannerModel" 31 6 15 (.array .boolean) := ⟨R_M, F_M, 21, ft_M, rfl, wi_M, to_M, n_M, by decide, gd_in3 99 (by decide +kernel) (by decide +kernel), rfl, rfl, by decide +kernel⟩
theorem kq_M_35 : zx_FF classes gd_T "CutPlannerModel" 35 6 16 (.array .int) := ⟨R_M, F_M, 21, ft_M, rfl, wi_M, to_M, n_M, by decide, gd_in3 100 (by decide +kernel) (by decide +kernel), rfl, rfl, by decide +kernel⟩
theorem kq_M_38 : zx_FF classes gd_T "CutPlannerModel" 38 6 17 (.array .int) := ⟨R_M, F_M, 21, ft_M, rfl, wi_M, to_M, n_M, by decide, gd_in3 101 (by decide +kernel) (by decide +kernel), rfl, rfl, by decide +kernel⟩
theorem kq_M_41 : zx_FF classes gd_T "CutPlannerModel" 41 6 19 (.array .int) := ⟨R_M, F_M, 21, ft_M, rfl, wi_M, to_M, n_M, by decide, gd_in3 103 (by decide +kernel) (by decide +kernel), rfl, rfl, by decide +kernel⟩
theorem ko_i : Cond.instanceMethod Lib.objectInit ∈ gd_T := gd_in1 23 (by decide +kernel) (by decide +kernel)
theorem ko_c : Cond.code Lib.objectInit ⟨#[0xb1]⟩ 1 none ∈ gd_T := gd_in1 24 (by decide +kernel) (by decide +kernel)
theorem kn_T : zx_NN classes gd_T "CutPlanner" 9 1 6 [.null, .null, .int 0, .int 0, .int 0, .int 0] := ⟨R_T, F_T, ft_T, gd_in1 25 (by decide +kernel) (by decide +kernel), gd_in1 26 (by decide +kernel) (by decide +kernel), gd_in1 2 (by decide +kernel) (by decide +kernel), rfl, wi_T, to_T, by decide +kernel⟩
theorem ks_T_init : Cond.instanceMethod y_T_init ∈ gd_T := gd_in1 28 (by decide +kernel) (by decide +kernel)
theorem kn_S : zx_NN classes gd_T "CutPlanner" 16 3 6 [.null, .null, .null, .null, .null, .int 0] := ⟨R_S, F_S, ft_S, gd_in1 67 (by decide +kernel) (by decide +kernel), gd_in1 68 (by decide +kernel) (by decide +kernel), gd_in1 3 (by decide +kernel) (by decide +kernel), rfl, wi_S, to_S, by decide +kernel⟩
theorem ks_S_init : Cond.instanceMethod y_S_init ∈ gd_T := gd_in1 70 (by decide +kernel) (by decide +kernel)
theorem kn_R : zx_NN classes gd_T "CutPlanner" 25 2 2 [.null, .int 0] := ⟨R_R, F_R, ft_R, gd_in1 96 (by decide +kernel) (by decide +kernel), gd_in1 97 (by decide +kernel) (by decide +kernel), gd_in1 5 (by decide +kernel) (by decide +kernel), rfl, wi_R, to_R, by decide +kernel⟩
theorem ks_R_init : Cond.instanceMethod y_R_init ∈ gd_T := gd_in1 99 (by decide +kernel) (by decide +kernel)
theorem kn_V : zx_NN classes gd_T "CutPlanner" 37 4 2 [.null, .null] := ⟨R_V, F_V, ft_V, gd_in1 111 (by decide +kernel) (by decide +kernel), gd_in1 112 (by decide +kernel) (by decide +kernel), gd_in1 6 (by decide +kernel) (by decide +kernel), rfl, wi_V, to_V, by decide +kernel⟩
theorem ks_V_init : Cond.instanceMethod y_V_init ∈ gd_T := gd_in1 114 (by decide +kernel) (by decide +kernel)
theorem kn_U : zx_NN classes gd_T "CutPlanner" 44 5 7 [.null, .null, .null, .null, .null, .int 0, .int 0] := ⟨R_U, F_U, ft_U, gd_in1 125 (by decide +kernel) (by decide +kernel), gd_in1 126 (by decide +kernel) (by decide +kernel), gd_in1 7 (by decide +kernel) (by decide +kernel), rfl, wi_U, to_U, by decide +kernel⟩
theorem ks_U_init : Cond.instanceMethod y_U_init ∈ gd_T := gd_in1 128 (by decide +kernel) (by decide +kernel)
theorem kn_P : zx_NN classes gd_T "CutPlannerLaw" 8 0 7 [.null, .null, .null, .null, .null, .null, .int 0] := ⟨R_P, F_P, ft_P, gd_in1 17 (by decide +kernel) (by decide +kernel), gd_in1 18 (by decide +kernel) (by decide +kernel), gd_in1 1 (by decide +kernel) (by decide +kernel), rfl, wi_P, to_P, by decide +kernel⟩
theorem ks_P_init : Cond.instanceMethod y_P_init ∈ gd_T := gd_in1 20 (by decide +kernel) (by decide +kernel)
theorem kn_M : zx_NN classes gd_T "CutPlannerLaw" 52 6 21 [.int 0, .int 0, .int 0, .int 0, .int 0, .null, .null, .null, .null, .int 0, .int 0, .null, .int 0, .null, .null, .null, .null, .null, .int 0, .null, .int 0] := ⟨R_M, F_M, ft_M, gd_in3 78 (by decide +kernel) (by decide +kernel), gd_in3 79 (by decide +kernel) (by decide +kernel), gd_in1 8 (by decide +kernel) (by decide +kernel), rfl, wi_M, to_M, by decide +kernel⟩
theorem ks_M_init : Cond.instanceMethod y_M_init ∈ gd_T := gd_in3 81 (by decide +kernel) (by decide +kernel)
theorem ka_int : Cond.arrayClass .int ∈ gd_T := gd_in1 66 (by decide +kernel) (by decide +kernel)
theorem ka_bool : Cond.arrayClass .boolean ∈ gd_T := gd_in3 148 (by decide +kernel) (by decide +kernel)
theorem ka_long : Cond.arrayClass .long ∈ gd_T := gd_in4 73 (by decide +kernel) (by decide +kernel)
theorem ka_grid : Cond.classLink "CutPlanner$Task" 15 "[[I" ∈ gd_T := gd_in1 31 (by decide +kernel) (by decide +kernel)
def y_fill : MethodName := ⟨"java/util/Arrays", "fill", "([II)V"⟩
abbrev b_fill : ByteArray := prog_18_method_103_code
theorem kc_fill : zd_C gd_T "CutPlanner$Search" 28 y_fill b_fill 4 none 2 := ⟨gd_in1 75 (by decide +kernel) (by decide +kernel), gd_in1 4 (by decide +kernel) (by decide +kernel), ⟨by decide, by decide⟩, by decide +kernel, by decide, Or.inl (gd_in1 73 (by decide +kernel) (by decide +kernel))⟩
theorem ks_fill : Cond.static y_fill ∈ gd_T := gd_in1 74 (by decide +kernel) (by decide +kernel)
theorem d_fill_0 : decode b_fill 0 = .ok (.iconst 0, 1) := by decide +kernel
theorem d_fill_1 : decode b_fill 1 = .ok (.istore_n 2, 1) := by decide +kernel
theorem d_fill_2 : decode b_fill 2 = .ok (.aload_n 0, 1) := by decide +kernel
theorem d_fill_3 : decode b_fill 3 = .ok (.arraylength, 1) := by decide +kernel
theorem d_fill_4 : decode b_fill 4 = .ok (.istore_n 3, 1) := by decide +kernel
theorem d_fill_5 : decode b_fill 5 = .ok (.iload_n 2, 1) := by decide +kernel
theorem d_fill_6 : decode b_fill 6 = .ok (.iload_n 3, 1) := by decide +kernel
theorem d_fill_7 : decode b_fill 7 = .ok (.if_icmp .ge 13, 3) := by decide +kernel
theorem d_fill_10 : decode b_fill 10 = .ok (.aload_n 0, 1) := by decide +kernel
theorem d_fill_11 : decode b_fill 11 = .ok (.iload_n 2, 1) := by decide +kernel
theorem d_fill_12 : decode b_fill 12 = .ok (.iload_n 1, 1) := by decide +kernel
theorem d_fill_13 : decode b_fill 13 = .ok (.iastore, 1) := by decide +kernel
theorem d_fill_14 : decode b_fill 14 = .ok (.iinc 2 1, 3) := by decide +kernel
theorem d_fill_17 : decode b_fill 17 = .ok (.goto (-12), 3) := by decide +kernel
theorem d_fill_20 : decode b_fill 20 = .ok (.return_, 1) := by decide +kernel
