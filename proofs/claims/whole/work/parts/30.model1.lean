/-! The reference: what its cells hold; its small methods. -/
section ZZ2
variable {Z : va_W → List (Option Value) → Nat → List Value → Prop} {l : Launch} {D : va_G} {cl : List vw_C} {tys : List (ClassId × FieldType)} {cc : ByteArray} {nL : Nat} {own : String} {Ts : List Cond} {R : Room} {ret : Option FieldType} {post : Option Value → va_W → Prop}
variable {ws : va_W} {L : List (Option Value)} {pc : Nat} {st : List Value}
theorem zd_zast (E : zd_E Z l D cl tys cc nL own Ts R ret post) {a t0 N : Nat} {cA : ClassId} {f : Nat → Int32} {i : Int32} {b : Bool} {ws1 : va_W} (d : decode cc pc = .ok (.bastore, 1)) (j : Nat) (ha : ws[j]? = some (a, .inl (cA, N, .inl f))) (ht : tys[t0]? = some (cA, .boolean)) (x : Nat) (hi : i = nI x) (hx1 : x < N) (hN : N < 2 ^ 31) (hw : ws.set j (a, .inl (cA, N, .inl (upd f x (nI (bm_b b))))) = ws1) (k : Z ws1 L (pc + 1) st) : Z ws L pc (.int (nI (bm_b b)) :: .int i :: .ref a :: st) := by
  obtain ⟨p, e, s, m, args, below, meth, c, A, nc, ns, Q, ⟨hx, hb, hml, hown, hts, hK, hr, hlk⟩, ⟨hnc, hns⟩, hQ, rfl⟩ := E
  subst hi
  subst hw
  have e1 : (nI x).toNatClampNeg = x := nI_clamp (Nat.lt_trans hx1 hN)
  have e2 : vp_nar .boolean (nI (bm_b b)) = nI (bm_b b) := by cases b <;> decide
  exact fun H locs ls hP hD hS hl => va_zast hx hb hK hP hD hS j t0 ha ht (vp_in_nI hx1 hN) d (by rw [e1, e2]; exact fun H1 locs1 hP1 hD1 hS1 => k H1 locs1 ls hP1 hD1 hS1 hl)
end ZZ2
/-- the reference's numbers at the places of the class's -/
def tk_mv (v : Nat → Int32) : Nat → Int32
  | 0 => v 11
  | 1 => v 14
  | 2 => v 12
  | _ => v 13
def tk_mr (r : Nat → Nat → Int32) : Nat → Nat → Int32
  | 2 => r 23
  | 4 => r 24
  | 5 => r 25
  | 6 => r 26
  | _ => r 23
abbrev tk_M (v : Nat → Int32) (r : Nat → Nat → Int32) (nf na fi go : Nat) (co ne ad dr : Nat → Nat) : Prop := tk_C (tk_mv v) (tk_mr r) nf na fi go co ne ad dr
theorem tk_mfr {v v1 : Nat → Int32} {r r1 : Nat → Nat → Int32} {nf na fi go : Nat} {co ne ad dr : Nat → Nat} (t : tk_M v r nf na fi go co ne ad dr) (h1 : v1 11 = v 11) (h2 : v1 12 = v 12) (h3 : v1 13 = v 13) (h4 : v1 14 = v 14) (g3 : r1 23 = r 23) (g4 : r1 24 = r 24) (g5 : r1 25 = r 25) (g6 : r1 26 = r 26) : tk_M v1 r1 nf na fi go co ne ad dr :=
  t.fr (fun i hi => by
    match i, hi with
    | 0, _ => exact h1
    | 1, _ => exact h4
    | 2, _ => exact h2
    | 3, _ => exact h3
    | k + 4, h => omega) g3 g4 g5 g6
theorem bm_dif0 {a b : Nat} : bm_dif a b = 0 ↔ b &&& a = a := by
  constructor
  · intro h
    refine Nat.eq_of_testBit_eq fun i => ?_
    have h1 := bm_dif_bit a b i
    rw [h, Nat.zero_testBit] at h1
    rw [Nat.testBit_and]
    cases ha : a.testBit i with
    | false => rw [Bool.and_false]
    | true =>
      rw [ha] at h1
      cases hb : b.testBit i with
      | true => rfl
      | false => rw [hb] at h1; cases h1
  · intro h
    refine Nat.eq_of_testBit_eq fun i => ?_
    rw [bm_dif_bit, Nat.zero_testBit]
    have h1 : (b &&& a).testBit i = a.testBit i := by rw [h]
    rw [Nat.testBit_and] at h1
    cases ha : a.testBit i with
    | false => rfl
    | true =>
      rw [ha] at h1
      cases hb : b.testBit i with
      | true => rfl
      | false => rw [hb] at h1; cases h1
section M1
variable {k : Nat → ClassId} {q : Nat → Nat} {v : Nat → Int32} {r : Nat → Nat → Int32} {ex : va_W} {nf na fi go : Nat} {co ne ad dr : Nat → Nat}
set_option maxRecDepth 100000 in
set_option maxHeartbeats 4000000 in
theorem c_M_thrown (l : Launch) (D : va_G) : zd_Ct l D classes (wd_ty k) gd_T y_M_thrown b_M_thrown 1 (some .int) (zd_rm 0) [.ref (q 22)] (wd k q v r ex) (zd_is (some (.int (v 10))) (wd k q v r ex)) := by
  refine zd_met gd_all (by decide) rfl (Nat.le_of_ble_eq_true rfl) (fun Z E => ?_)
  show Z (wd k q v r ex) [some (.ref (q 22))] 0 []
  refine zd_aload_n E (pc := 0) d_M_thrown_0 rfl ?_
  refine zd_get E (pc := 1) d_M_thrown_1 kf_M_44 22 rfl rfl ?_
  exact zd_iret E (pc := 4) d_M_thrown_4 ⟨rfl, rfl⟩
set_option maxRecDepth 100000 in
set_option maxHeartbeats 4000000 in
theorem c_M_noFact (l : Launch) (D : va_G) {n : Nat} (x : Int32) (hv : v (if "Fact" = "Fact" then 11 else 14) = nI n) (hn : n < 100) : zd_Ct l D classes (wd_ty k) gd_T y_M_noFact b_M_noFact 2 (some .boolean) (zd_rm 0) [.ref (q 22), .int x] (wd k q v r ex)
    (fun v1 w1 => ∃ b : Bool, ((b = false ∧ ∃ j, j < n ∧ x = nI j) ∨ (b = true ∧ (x < 0 ∨ nI n ≤ x))) ∧ v1 = some (.int (nI (bm_b b))) ∧ w1 = wd k q v r ex) := by
  refine zd_met gd_all (by decide) rfl (Nat.le_of_ble_eq_true rfl) (fun Z E => ?_)
  show Z (wd k q v r ex) [some (.ref (q 22)), some (.int x)] 0 []
  have out : (x < 0 ∨ nI n ≤ x) → Z (wd k q v r ex) [some (.ref (q 22)), some (.int x)] 12 [] := by
    intro hx
    refine zd_iconst E (pc := 12) (v := (nI 1)) d_M_noFact_12 (by decide) ?_
    refine zd_goto E (pc := 13) 17 d_M_noFact_13 (by decide) ?_
    exact zd_zret E (pc := 17) d_M_noFact_17 (by decide) ⟨true, Or.inr ⟨rfl, hx⟩, rfl, rfl⟩
  refine zd_iload_n E (pc := 0) d_M_noFact_0 rfl ?_
  refine zd_if_lt E (pc := 1) 12 d_M_noFact_1 (by decide) (fun h0 => ?_) (fun h0 => ?_)
  · exact out (Or.inl h0)
  · refine zd_iload_n E (pc := 4) d_M_noFact_4 rfl ?_
    refine zd_aload_n E (pc := 5) d_M_noFact_5 rfl ?_
    refine zd_get E (pc := 6) d_M_noFact_6 kf_M_48 22 rfl rfl ?_
    show Z (wd k q v r ex) [some (.ref (q 22)), some (.int x)] 9 [.int (v (if "Fact" = "Fact" then 11 else 14)), .int x]
    rw [hv]
    refine zd_ic_lt E (pc := 9) 16 d_M_noFact_9 (by decide) (fun h1 => ?_) (fun h1 => ?_)
    · refine zd_iconst E (pc := 16) (v := (nI 0)) d_M_noFact_16 (by decide) ?_
      rcases pk_ix x (n := n) (by omega) with z | z | z
      · exact absurd z h0
      · exact absurd h1 (by rw [Int32.lt_iff_toInt_lt]; rw [Int32.le_iff_toInt_le] at z; omega)
      · exact zd_zret E (pc := 17) d_M_noFact_17 (by decide) ⟨false, Or.inl ⟨rfl, z⟩, rfl, rfl⟩
    · refine out (Or.inr ?_)
      rw [Int32.le_iff_toInt_le]; rw [Int32.lt_iff_toInt_lt] at h1; omega
set_option maxRecDepth 100000 in
set_option maxHeartbeats 4000000 in
theorem c_M_noAction (l : Launch) (D : va_G) {n : Nat} (x : Int32) (hv : v (if "Action" = "Fact" then 11 else 14) = nI n) (hn : n < 100) : zd_Ct l D classes (wd_ty k) gd_T y_M_noAction b_M_noAction 2 (some .boolean) (zd_rm 0) [.ref (q 22), .int x] (wd k q v r ex)
    (fun v1 w1 => ∃ b : Bool, ((b = false ∧ ∃ j, j < n ∧ x = nI j) ∨ (b = true ∧ (x < 0 ∨ nI n ≤ x))) ∧ v1 = some (.int (nI (bm_b b))) ∧ w1 = wd k q v r ex) := by
  refine zd_met gd_all (by decide) rfl (Nat.le_of_ble_eq_true rfl) (fun Z E => ?_)
  show Z (wd k q v r ex) [some (.ref (q 22)), some (.int x)] 0 []
  have out : (x < 0 ∨ nI n ≤ x) → Z (wd k q v r ex) [some (.ref (q 22)), some (.int x)] 12 [] := by
    intro hx
    refine zd_iconst E (pc := 12) (v := (nI 1)) d_M_noAction_12 (by decide) ?_
    refine zd_goto E (pc := 13) 17 d_M_noAction_13 (by decide) ?_
    exact zd_zret E (pc := 17) d_M_noAction_17 (by decide) ⟨true, Or.inr ⟨rfl, hx⟩, rfl, rfl⟩
  refine zd_iload_n E (pc := 0) d_M_noAction_0 rfl ?_
  refine zd_if_lt E (pc := 1) 12 d_M_noAction_1 (by decide) (fun h0 => ?_) (fun h0 => ?_)
  · exact out (Or.inl h0)
  · refine zd_iload_n E (pc := 4) d_M_noAction_4 rfl ?_
    refine zd_aload_n E (pc := 5) d_M_noAction_5 rfl ?_
    refine zd_get E (pc := 6) d_M_noAction_6 kf_M_51 22 rfl rfl ?_
    show Z (wd k q v r ex) [some (.ref (q 22)), some (.int x)] 9 [.int (v (if "Action" = "Fact" then 11 else 14)), .int x]
    rw [hv]
    refine zd_ic_lt E (pc := 9) 16 d_M_noAction_9 (by decide) (fun h1 => ?_) (fun h1 => ?_)
    · refine zd_iconst E (pc := 16) (v := (nI 0)) d_M_noAction_16 (by decide) ?_
      rcases pk_ix x (n := n) (by omega) with z | z | z
      · exact absurd z h0
      · exact absurd h1 (by rw [Int32.lt_iff_toInt_lt]; rw [Int32.le_iff_toInt_le] at z; omega)
      · exact zd_zret E (pc := 17) d_M_noAction_17 (by decide) ⟨false, Or.inl ⟨rfl, z⟩, rfl, rfl⟩
    · refine out (Or.inr ?_)
      rw [Int32.le_iff_toInt_le]; rw [Int32.lt_iff_toInt_lt] at h1; omega
set_option maxRecDepth 100000 in
set_option maxHeartbeats 4000000 in
theorem c_M_changed (l : Launch) (D : va_G) : zd_Ct l D classes (wd_ty k) gd_T y_M_changed b_M_changed 1 none (zd_rm 0) [.ref (q 22)] (wd k q v r ex) (zd_is none (wd k q (upd (upd v 17 (nI 0)) 15 (v 12)) r ex)) := by
  refine zd_met gd_all (by decide) rfl (Nat.le_of_ble_eq_true rfl) (fun Z E => ?_)
  show Z (wd k q v r ex) [some (.ref (q 22))] 0 []
  refine zd_aload_n E (pc := 0) d_M_changed_0 rfl ?_
  refine zd_iconst E (pc := 1) (v := (nI 0)) d_M_changed_1 (by decide) ?_
  refine zd_put E (pc := 2) d_M_changed_2 kp_M_54 22 rfl (Nat.le_of_ble_eq_true rfl) (ws1 := wd k q (upd v 17 (nI 0)) r ex) rfl ?_
  refine zd_aload_n E (pc := 5) d_M_changed_5 rfl ?_
  refine zd_aload_n E (pc := 6) d_M_changed_6 rfl ?_
  refine zd_get E (pc := 7) d_M_changed_7 kf_M_57 22 rfl rfl ?_
  show Z (wd k q (upd v 17 (nI 0)) r ex) [some (.ref (q 22))] 10 [.int (v 12), .ref (q 22)]
  refine zd_put E (pc := 10) d_M_changed_10 kp_M_60 22 rfl (Nat.le_of_ble_eq_true rfl) (ws1 := wd k q (upd (upd v 17 (nI 0)) 15 (v 12)) r ex) rfl ?_
  exact zd_vret E (pc := 13) d_M_changed_13 ⟨rfl, rfl⟩
set_option maxRecDepth 100000 in
set_option maxHeartbeats 4000000 in
theorem c_M_can (l : Launch) (D : va_G) {a s : Nat} (t : tk_M v r nf na fi go co ne ad dr) (ha : a < 12) : zd_Ct l D classes (wd_ty k) gd_T y_M_can b_M_can 3 (some .boolean) (zd_rm 0) [.ref (q 22), .int (nI a), .int (nI s)] (wd k q v r ex) (zd_is (some (.int (nI (bm_b (tk_can ne a s))))) (wd k q v r ex)) := by
  refine zd_met gd_all (by decide) rfl (Nat.le_of_ble_eq_true rfl) (fun Z E => ?_)
  show Z (wd k q v r ex) [some (.ref (q 22)), some (.int (nI a)), some (.int (nI s))] 0 []
  obtain ⟨n1, n2⟩ := t.hne a ha
  have n1 : r 24 a = nI (ne a) := n1
  have hlt : bm_dif (ne a) s < 2 ^ 31 := tk_dif_lt n2
  refine zd_aload_n E (pc := 0) d_M_can_0 rfl ?_
  refine zd_get E (pc := 1) d_M_can_1 kf_M_13 22 rfl rfl ?_
  refine zd_iload_n E (pc := 4) d_M_can_4 rfl ?_
  refine zd_iald E (pc := 5) d_M_can_5 24 rfl (t0 := 0) rfl (a) (rfl) (ha) (by decide) ?_
  rw [n1]
  refine zd_iload_n E (pc := 6) d_M_can_6 rfl ?_
  refine zd_iconst E (pc := 7) (v := (-1)) d_M_can_7 (by decide) ?_
  refine zd_ixor E (pc := 8) d_M_can_8 ?_
  refine zd_iand E (pc := 9) d_M_can_9 ?_
  rw [bm_dif32]
  refine zd_if_ne E (pc := 10) 17 d_M_can_10 (by decide) (fun h0 => ?_) (fun h0 => ?_)
  · have hf : tk_can ne a s = false := by
      unfold tk_can
      refine decide_eq_false fun z => h0 ?_
      rw [bm_dif0.mpr z]; rfl
    refine zd_iconst E (pc := 17) (v := (nI 0)) d_M_can_17 (by decide) ?_
    exact zd_zret E (pc := 18) d_M_can_18 (by decide) ⟨by rw [hf]; rfl, rfl⟩
  · have hf : tk_can ne a s = true := by
      unfold tk_can
      refine decide_eq_true (bm_dif0.mp ?_)
      have h0 := Classical.not_not.mp h0
      exact (nI_eq hlt (by decide)).mp (h0.trans nI_0.symm)
    refine zd_iconst E (pc := 13) (v := (nI 1)) d_M_can_13 (by decide) ?_
    refine zd_goto E (pc := 14) 18 d_M_can_14 (by decide) ?_
    exact zd_zret E (pc := 18) d_M_can_18 (by decide) ⟨by rw [hf]; rfl, rfl⟩
set_option maxRecDepth 100000 in
set_option maxHeartbeats 4000000 in
theorem c_M_after (l : Launch) (D : va_G) {a s : Nat} (t : tk_M v r nf na fi go co ne ad dr) (ha : a < 12) : zd_Ct l D classes (wd_ty k) gd_T y_M_after b_M_after 3 (some .int) (zd_rm 0) [.ref (q 22), .int (nI a), .int (nI s)] (wd k q v r ex) (zd_is (some (.int (nI (tk_af ad dr a s)))) (wd k q v r ex)) := by
  refine zd_met gd_all (by decide) rfl (Nat.le_of_ble_eq_true rfl) (fun Z E => ?_)
  show Z (wd k q v r ex) [some (.ref (q 22)), some (.int (nI a)), some (.int (nI s))] 0 []
  have d1 : r 26 a = nI (dr a) := t.hdr0 a ha
  have a1 : r 25 a = nI (ad a) := t.had0 a ha
  refine zd_iload_n E (pc := 0) d_M_after_0 rfl ?_
  refine zd_aload_n E (pc := 1) d_M_after_1 rfl ?_
  refine zd_get E (pc := 2) d_M_after_2 kf_M_19 22 rfl rfl ?_
  refine zd_iload_n E (pc := 5) d_M_after_5 rfl ?_
  refine zd_iald E (pc := 6) d_M_after_6 26 rfl (t0 := 0) rfl (a) (rfl) (ha) (by decide) ?_
  rw [d1]
  refine zd_iconst E (pc := 7) (v := (-1)) d_M_after_7 (by decide) ?_
  refine zd_ixor E (pc := 8) d_M_after_8 ?_
  refine zd_iand E (pc := 9) d_M_after_9 ?_
  rw [bm_dif32]
  refine zd_aload_n E (pc := 10) d_M_after_10 rfl ?_
  refine zd_get E (pc := 11) d_M_after_11 kf_M_16 22 rfl rfl ?_
  refine zd_iload_n E (pc := 14) d_M_after_14 rfl ?_
  refine zd_iald E (pc := 15) d_M_after_15 25 rfl (t0 := 0) rfl (a) (rfl) (ha) (by decide) ?_
  rw [a1]
  refine zd_ior E (pc := 16) d_M_after_16 ?_
  rw [bm_or]
  exact zd_iret E (pc := 17) d_M_after_17 ⟨rfl, rfl⟩
set_option maxRecDepth 100000 in
set_option maxHeartbeats 4000000 in
theorem c_M_isMet (l : Launch) (D : va_G) {s : Nat} (t : tk_M v r nf na fi go co ne ad dr) : zd_Ct l D classes (wd_ty k) gd_T y_M_isMet b_M_isMet 2 (some .boolean) (zd_rm 0) [.ref (q 22), .int (nI s)] (wd k q v r ex) (zd_is (some (.int (nI (bm_b (tk_met go s))))) (wd k q v r ex)) := by
  refine zd_met gd_all (by decide) rfl (Nat.le_of_ble_eq_true rfl) (fun Z E => ?_)
  show Z (wd k q v r ex) [some (.ref (q 22)), some (.int (nI s))] 0 []
  obtain ⟨g1, g2⟩ := t.hgo
  have g1 : v 13 = nI go := g1
  have hlt : bm_dif go s < 2 ^ 31 := tk_dif_lt g2
  refine zd_aload_n E (pc := 0) d_M_isMet_0 rfl ?_
  refine zd_get E (pc := 1) d_M_isMet_1 kf_M_63 22 rfl rfl ?_
  rw [g1]
  refine zd_iload_n E (pc := 4) d_M_isMet_4 rfl ?_
  refine zd_iconst E (pc := 5) (v := (-1)) d_M_isMet_5 (by decide) ?_
  refine zd_ixor E (pc := 6) d_M_isMet_6 ?_
  refine zd_iand E (pc := 7) d_M_isMet_7 ?_
  rw [bm_dif32]
  refine zd_if_ne E (pc := 8) 15 d_M_isMet_8 (by decide) (fun h0 => ?_) (fun h0 => ?_)
  · have hf : tk_met go s = false := by
      unfold tk_met
      refine decide_eq_false fun z => h0 ?_
      rw [bm_dif0.mpr z]; rfl
    refine zd_iconst E (pc := 15) (v := (nI 0)) d_M_isMet_15 (by decide) ?_
    exact zd_zret E (pc := 16) d_M_isMet_16 (by decide) ⟨by rw [hf]; rfl, rfl⟩
  · have hf : tk_met go s = true := by
      unfold tk_met
      refine decide_eq_true (bm_dif0.mp ?_)
      have h0 := Classical.not_not.mp h0
      exact (nI_eq hlt (by decide)).mp (h0.trans nI_0.symm)
    refine zd_iconst E (pc := 11) (v := (nI 1)) d_M_isMet_11 (by decide) ?_
    refine zd_goto E (pc := 12) 16 d_M_isMet_12 (by decide) ?_
    exact zd_zret E (pc := 16) d_M_isMet_16 (by decide) ⟨by rw [hf]; rfl, rfl⟩
set_option maxRecDepth 100000 in
set_option maxHeartbeats 4000000 in
theorem c_M_told (l : Launch) (D : va_G) (tys : List (ClassId × FieldType)) (ws : va_W) {x : Nat} (hx : x < 2 ^ 31) : zd_Ct l D classes tys gd_T y_M_told b_M_told 1 (some .int) (zd_rm 0) [.int (nI x)] ws (zd_is (some (.int (if 1048576 ≤ x then -1 else nI x))) ws) := by
  refine zd_met gd_all (by decide) rfl (Nat.le_of_ble_eq_true rfl) (fun Z E => ?_)
  show Z ws [some (.int (nI x))] 0 []
  refine zd_iload_n E (pc := 0) d_M_told_0 rfl ?_
  refine zd_ldc E (pc := 1) (v := (nI 1048576)) d_M_told_1 kk_M_87 ?_
  refine zd_nc_lt E (pc := 3) 10 d_M_told_3 (by decide) (hx) ((by decide)) (fun h => ?_) (fun h => ?_)
  · refine zd_iload_n E (pc := 10) d_M_told_10 rfl ?_
    exact zd_iret E (pc := 11) d_M_told_11 ⟨by rw [if_neg (by omega)], rfl⟩
  · refine zd_iconst E (pc := 6) (v := (-1)) d_M_told_6 (by decide) ?_
    refine zd_goto E (pc := 7) 11 d_M_told_7 (by decide) ?_
    exact zd_iret E (pc := 11) d_M_told_11 ⟨by rw [if_pos h], rfl⟩
set_option maxRecDepth 100000 in
set_option maxHeartbeats 4000000 in
theorem c_M_reset (l : Launch) (D : va_G) : zd_Ct l D classes (wd_ty k) gd_T y_M_reset b_M_reset 1 none (zd_rm 0) [.ref (q 22)] (wd k q v r ex) (zd_is none (wd k q (upd (upd v 10 (nI 0)) 15 (v 12)) r ex)) := by
  refine zd_met gd_all (by decide) rfl (Nat.le_of_ble_eq_true rfl) (fun Z E => ?_)
  show Z (wd k q v r ex) [some (.ref (q 22))] 0 []
  refine zd_aload_n E (pc := 0) d_M_reset_0 rfl ?_
  refine zd_iconst E (pc := 1) (v := (nI 0)) d_M_reset_1 (by decide) ?_
  refine zd_put E (pc := 2) d_M_reset_2 kp_M_44 22 rfl (Nat.le_of_ble_eq_true rfl) (ws1 := wd k q (upd v 10 (nI 0)) r ex) rfl ?_
  refine zd_aload_n E (pc := 5) d_M_reset_5 rfl ?_
  refine zd_aload_n E (pc := 6) d_M_reset_6 rfl ?_
  refine zd_get E (pc := 7) d_M_reset_7 kf_M_57 22 rfl rfl ?_
  show Z (wd k q (upd v 10 (nI 0)) r ex) [some (.ref (q 22))] 10 [.int (v 12), .ref (q 22)]
  refine zd_put E (pc := 10) d_M_reset_10 kp_M_60 22 rfl (Nat.le_of_ble_eq_true rfl) (ws1 := wd k q (upd (upd v 10 (nI 0)) 15 (v 12)) r ex) rfl ?_
  exact zd_vret E (pc := 13) d_M_reset_13 ⟨rfl, rfl⟩
set_option maxRecDepth 100000 in
set_option maxHeartbeats 4000000 in
theorem c_M_wipe (l : Launch) (D : va_G) : zd_Ct l D classes (wd_ty k) gd_T y_M_wipe b_M_wipe 1 none (zd_rm 0) [.ref (q 22)] (wd k q v r ex) (zd_is none (wd k q (upd (upd v 10 (nI 0)) 17 (nI 0)) r ex)) := by
  refine zd_met gd_all (by decide) rfl (Nat.le_of_ble_eq_true rfl) (fun Z E => ?_)
  show Z (wd k q v r ex) [some (.ref (q 22))] 0 []
  refine zd_aload_n E (pc := 0) d_M_wipe_0 rfl ?_
  refine zd_iconst E (pc := 1) (v := (nI 0)) d_M_wipe_1 (by decide) ?_
  refine zd_put E (pc := 2) d_M_wipe_2 kp_M_44 22 rfl (Nat.le_of_ble_eq_true rfl) (ws1 := wd k q (upd v 10 (nI 0)) r ex) rfl ?_
  refine zd_aload_n E (pc := 5) d_M_wipe_5 rfl ?_
  refine zd_iconst E (pc := 6) (v := (nI 0)) d_M_wipe_6 (by decide) ?_
  refine zd_put E (pc := 7) d_M_wipe_7 kp_M_54 22 rfl (Nat.le_of_ble_eq_true rfl) (ws1 := wd k q (upd (upd v 10 (nI 0)) 17 (nI 0)) r ex) rfl ?_
  exact zd_vret E (pc := 10) d_M_wipe_10 ⟨rfl, rfl⟩
set_option maxRecDepth 100000 in
set_option maxHeartbeats 4000000 in
theorem c_M_length (l : Launch) (D : va_G) : zd_Ct l D classes (wd_ty k) gd_T y_M_length b_M_length 1 (some .int) (zd_rm 0) [.ref (q 22)] (wd k q v r ex) (zd_is (some (.int (v 16))) (wd k q (upd v 10 (nI 0)) r ex)) := by
  refine zd_met gd_all (by decide) rfl (Nat.le_of_ble_eq_true rfl) (fun Z E => ?_)
  show Z (wd k q v r ex) [some (.ref (q 22))] 0 []
  refine zd_aload_n E (pc := 0) d_M_length_0 rfl ?_
  refine zd_iconst E (pc := 1) (v := (nI 0)) d_M_length_1 (by decide) ?_
  refine zd_put E (pc := 2) d_M_length_2 kp_M_44 22 rfl (Nat.le_of_ble_eq_true rfl) (ws1 := wd k q (upd v 10 (nI 0)) r ex) rfl ?_
  refine zd_aload_n E (pc := 5) d_M_length_5 rfl ?_
  refine zd_get E (pc := 6) d_M_length_6 kf_M_91 22 rfl rfl ?_
  exact zd_iret E (pc := 9) d_M_length_9 ⟨rfl, rfl⟩
set_option maxRecDepth 100000 in
set_option maxHeartbeats 4000000 in
theorem c_M_step (l : Launch) (D : va_G) {n : Nat} (x : Int32) (hv : v 16 = nI n) (hn : n ≤ 1024) : zd_Ct l D classes (wd_ty k) gd_T y_M_step b_M_step 2 (some .int) (zd_rm 0) [.ref (q 22), .int x] (wd k q v r ex)
    (fun v1 w1 => ((∃ j, j < n ∧ x = nI j ∧ v1 = some (.int (r 27 j))) ∨ ((x < 0 ∨ nI n ≤ x) ∧ v1 = some (.int (-1)))) ∧ w1 = wd k q (upd v 10 (nI 0)) r ex) := by
  refine zd_met gd_all (by decide) rfl (Nat.le_of_ble_eq_true rfl) (fun Z E => ?_)
  show Z (wd k q v r ex) [some (.ref (q 22)), some (.int x)] 0 []
  have out : (x < 0 ∨ nI n ≤ x) → Z (wd k q (upd v 10 (nI 0)) r ex) [some (.ref (q 22)), some (.int x)] 17 [] := by
    intro hx
    refine zd_iconst E (pc := 17) (v := (-1)) d_M_step_17 (by decide) ?_
    refine zd_goto E (pc := 18) 27 d_M_step_18 (by decide) ?_
    exact zd_iret E (pc := 27) d_M_step_27 ⟨Or.inr ⟨hx, rfl⟩, rfl⟩
  refine zd_aload_n E (pc := 0) d_M_step_0 rfl ?_
  refine zd_iconst E (pc := 1) (v := (nI 0)) d_M_step_1 (by decide) ?_
  refine zd_put E (pc := 2) d_M_step_2 kp_M_44 22 rfl (Nat.le_of_ble_eq_true rfl) (ws1 := wd k q (upd v 10 (nI 0)) r ex) rfl ?_
  refine zd_iload_n E (pc := 5) d_M_step_5 rfl ?_
  refine zd_if_lt E (pc := 6) 17 d_M_step_6 (by decide) (fun h0 => ?_) (fun h0 => ?_)
  · exact out (Or.inl h0)
  · refine zd_iload_n E (pc := 9) d_M_step_9 rfl ?_
    refine zd_aload_n E (pc := 10) d_M_step_10 rfl ?_
    refine zd_get E (pc := 11) d_M_step_11 kf_M_91 22 rfl rfl ?_
    show Z (wd k q (upd v 10 (nI 0)) r ex) [some (.ref (q 22)), some (.int x)] 14 [.int (v 16), .int x]
    rw [hv]
    refine zd_ic_lt E (pc := 14) 21 d_M_step_14 (by decide) (fun h1 => ?_) (fun h1 => ?_)
    · rcases pk_ix x (n := n) (by omega) with z | z | ⟨j, hj, rfl⟩
      · exact absurd z h0
      · exact absurd h1 (by rw [Int32.lt_iff_toInt_lt]; rw [Int32.le_iff_toInt_le] at z; omega)
      · refine zd_aload_n E (pc := 21) d_M_step_21 rfl ?_
        refine zd_get E (pc := 22) d_M_step_22 kf_M_22 22 rfl rfl ?_
        refine zd_iload_n E (pc := 25) d_M_step_25 rfl ?_
        refine zd_iald E (pc := 26) d_M_step_26 27 rfl (t0 := 0) rfl (j) (rfl) ((by omega)) (by decide) ?_
        exact zd_iret E (pc := 27) d_M_step_27 ⟨Or.inl ⟨j, hj, rfl, rfl⟩, rfl⟩
    · refine out (Or.inr ?_)
      rw [Int32.le_iff_toInt_le]; rw [Int32.lt_iff_toInt_lt] at h1; omega
end M1
