/-! collect: all cuts of a state. -/
theorem cu_mk_lt (P : Nat → Bool) (n : Nat) : cu_mk P n < 2 ^ n := bm_lt fun i hi => by
  rw [cu_mk_bit] at hi
  simp only [Bool.and_eq_true, decide_eq_true_eq] at hi
  exact hi.1
/-- the levels under costs c, and the goal's -/
def cs_L (na : Nat) (c ne ad : Nat → Nat) (s : Nat) : Nat → Nat := lm_it 1000000 false 10 na c ne ad (fun _ => false) (lm_i0 1000000 s) 10
def cs_G (na : Nat) (c ne ad : Nat → Nat) (s go : Nat) : Nat := lm_jn 1000000 false (cs_L na c ne ad s) go 10
/-- C is the cut under the costs c -/
def cs_one (na : Nat) (c ne ad : Nat → Nat) (s go C : Nat) : Prop := ∃ (ba : Nat → Nat) (gb X Y : Nat), (∀ a, a < na → cu_B (cs_L na c ne ad s) (ne a) 10 (ba a)) ∧ cu_B (cs_L na c ne ad s) go 10 gb ∧ cu_is na (cu_tz 1000000 10 c ne ad (cs_L na c ne ad s)) (fun a => 2 ^ ba a) (2 ^ gb) X ∧ cu_is na (cu_tr 1000000 10 ne ba (cs_L na c ne ad s)) (fun a => bm_dif (ad a) X) (bm_dif (s ||| 2 ^ 10) X) Y ∧ C = cu_mk (cu_ac 1000000 10 ne ad ba (cs_L na c ne ad s) X Y) na
def cs_pay (na : Nat) (c : Nat → Nat) (C p : Nat) : Nat → Nat := fun i => if i < na then lm_pay c C p i else c i
/-- m cuts, one behind another: the costs, the cuts, the prices -/
def cs_run (na : Nat) (co ne ad : Nat → Nat) (s go m : Nat) (cc : Nat → Nat → Nat) (CC pp : Nat → Nat) : Prop := cc 0 = co ∧ ∀ j, j < m → 0 < cs_G na (cc j) ne ad s go ∧ cs_G na (cc j) ne ad s go < 1000000 ∧ cs_one na (cc j) ne ad s go (CC j) ∧ pp j = lm_min (cc j) (CC j) na ∧ cc (j + 1) = cs_pay na (cc j) (CC j) (pp j)
theorem kz_link : Cond.methodLink "CutPlanner$Cuts" 34 arraycopyName ∈ gd_T := gd_in2 52 (by decide +kernel) (by decide +kernel)
theorem kz_native : Cond.native arraycopyName ∈ gd_T := gd_in2 54 (by decide +kernel) (by decide +kernel)
theorem kz_static : Cond.static arraycopyName ∈ gd_T := gd_in2 53 (by decide +kernel) (by decide +kernel)
theorem kz_init : Cond.initialized "java/lang/System" ∈ gd_T := gd_in1 16 (by decide +kernel) (by decide +kernel)
section AC
variable {k : Nat → ClassId} {q : Nat → Nat} {v : Nat → Int32} {r : Nat → Nat → Int32} {ex : va_W} {nf na fi go : Nat} {co ne ad dr : Nat → Nat}
set_option maxRecDepth 100000 in
set_option maxHeartbeats 4000000 in
theorem c_U_collect (l : Launch) (D : va_G) {s : Nat} (t : tk_C v r nf na fi go co ne ad dr) (hs : s < 1024) : zd_Ct l D classes (wd_ty k) gd_T y_U_collect b_U_collect 4 none (zd_rm 4) [.ref (q 18), .int (nI s)] (wd k q v r ex)
    (fun v1 w1 => ∃ (v2 : Nat → Int32) (r2 : Nat → Nat → Int32) (m : Nat) (cc : Nat → Nat → Nat) (CC pp : Nat → Nat), (∀ i, i ≠ 7 → i ≠ 8 → v2 i = v i) ∧ (∀ i, i ≠ 17 → i ≠ 19 → i ≠ 20 → i ≠ 21 → r2 i = r i) ∧ cs_run na co ne ad s go m cc CC pp ∧ m ≤ 12 ∧ (m = 12 ∨ cs_G na (cc m) ne ad s go = 0 ∨ 1000000 ≤ cs_G na (cc m) ne ad s go) ∧ v2 7 = nI m ∧ (∀ j, j < m → r2 21 j = nI (CC j)) ∧ v2 8 = (if 1000000 ≤ cs_G na (cc m) ne ad s go then -1 else nI (lm_sum pp m)) ∧ v1 = none ∧ w1 = wd k q v2 r2 ex) := by
  refine zd_met gd_all (by decide) rfl (Nat.le_of_ble_eq_true rfl) (fun Z E => ?_)
  show Z (wd k q v r ex) [some (.ref (q 18)), some (.int (nI s)), none, none] 0 []
  have hna := t.hna.2
  have G31 : ∀ c, cs_G na c ne ad s go ≤ 1000000 := fun c => lm_jn_le _ _ _ _ _
  have L31 : ∀ c j, cs_L na c ne ad s j ≤ 1000000 := fun c j => Nat.le_trans (lm_it_le _ _ _) (lm_i0_le _ _ _)
  have fin : ∀ (v1 : Nat → Int32) (r1 : Nat → Nat → Int32) (m : Nat) (cc : Nat → Nat → Nat) (CC pp : Nat → Nat), (∀ i, i ≠ 7 → i ≠ 8 → v1 i = v i) → (∀ i, i ≠ 17 → i ≠ 19 → i ≠ 20 → i ≠ 21 → r1 i = r i) → cs_run na co ne ad s go m cc CC pp → m ≤ 12 → (m = 12 ∨ cs_G na (cc m) ne ad s go = 0 ∨ 1000000 ≤ cs_G na (cc m) ne ad s go) → v1 7 = nI m → (∀ j, j < m → r1 21 j = nI (CC j)) → v1 8 = nI (lm_sum pp m) →
      Z (wd k q v1 r1 ex) [some (.ref (q 18)), some (.int (nI s)), some (.int (nI (cs_G na (cc m) ne ad s go))), some (.int (nI m))] 101 [] := by
    intro v1 r1 m cc CC pp hfv hfr hrun hm hend h7 h21 h8
    have hG := G31 (cc m)
    refine zd_iload_n E (pc := 101) d_U_collect_101 rfl ?_
    refine zd_ldc E (pc := 102) (v := (nI 1000000)) d_U_collect_102 kk_U_51 ?_
    refine zd_nc_lt E (pc := 104) 112 d_U_collect_104 (by decide) ((by omega)) ((by omega)) (fun hq => ?_) (fun hq => ?_)
    · exact zd_vret E (pc := 112) d_U_collect_112 ⟨v1, r1, m, cc, CC, pp, hfv, hfr, hrun, hm, hend, h7, h21, by rw [if_neg (by omega)]; exact h8, rfl, rfl⟩
    · refine zd_aload_n E (pc := 107) d_U_collect_107 rfl ?_
      refine zd_iconst E (pc := 108) (v := (-1)) d_U_collect_108 (by decide) ?_
      refine zd_put E (pc := 109) d_U_collect_109 kp_U_44 18 rfl (Nat.le_of_ble_eq_true rfl) (ws1 := wd k q (upd v1 8 (-1)) r1 ex) rfl ?_
      exact zd_vret E (pc := 112) d_U_collect_112 ⟨upd v1 8 (-1), r1, m, cc, CC, pp, fun i a b => by rw [pk_un b]; exact hfv i a b, hfr, hrun, hm, hend, by rw [pk_un (by decide)]; exact h7, h21, by rw [if_pos hq, pk_us], rfl, rfl⟩
  have loop : ∀ (n m : Nat) (v1 : Nat → Int32) (r1 : Nat → Nat → Int32) (cc : Nat → Nat → Nat) (CC pp : Nat → Nat), m + n = 12 → (∀ i, i ≠ 7 → i ≠ 8 → v1 i = v i) → (∀ i, i ≠ 17 → i ≠ 19 → i ≠ 20 → i ≠ 21 → r1 i = r i) → cs_run na co ne ad s go m cc CC pp → v1 7 = nI m → (∀ j, j < m → r1 21 j = nI (CC j)) → v1 8 = nI (lm_sum pp m) → (∀ i, i < 12 → r1 19 i = nI (cc m i) ∧ cc m i ≤ 9) → (∀ j, j < 10 → r1 17 j = nI (cs_L na (cc m) ne ad s j)) →
      Z (wd k q v1 r1 ex) [some (.ref (q 18)), some (.int (nI s)), some (.int (nI (cs_G na (cc m) ne ad s go))), some (.int (nI m))] 36 [] := by
    intro n
    induction n with
    | zero =>
      intro m v1 r1 cc CC pp hm hfv hfr hrun h7 h21 h8 h19 h17
      have e : m = 12 := by omega
      refine zd_iload_n E (pc := 36) d_U_collect_36 rfl ?_
      refine zd_bipush E (pc := 37) (v := (nI 12)) d_U_collect_37 (by decide) ?_
      refine zd_nc_ge E (pc := 39) 101 d_U_collect_39 (by decide) ((by omega)) ((by omega)) (fun hq => ?_) (fun hq => ?_)
      · exact fin v1 r1 m cc CC pp hfv hfr hrun (by omega) (Or.inl e) h7 h21 h8
      · omega
    | succ n ih =>
      intro m v1 r1 cc CC pp hm hfv hfr hrun h7 h21 h8 h19 h17
      have hG := G31 (cc m)
      have t1 : tk_C v1 r1 nf na fi go co ne ad dr := t.fr (fun i hi => hfv i (by omega) (by omega)) (hfr 2 (by decide) (by decide) (by decide) (by decide)) (hfr 4 (by decide) (by decide) (by decide) (by decide)) (hfr 5 (by decide) (by decide) (by decide) (by decide)) (hfr 6 (by decide) (by decide) (by decide) (by decide))
      refine zd_iload_n E (pc := 36) d_U_collect_36 rfl ?_
      refine zd_bipush E (pc := 37) (v := (nI 12)) d_U_collect_37 (by decide) ?_
      refine zd_nc_ge E (pc := 39) 101 d_U_collect_39 (by decide) ((by omega)) ((by omega)) (fun hq => ?_) (fun hq => ?_)
      · omega
      · refine zd_iload_n E (pc := 42) d_U_collect_42 rfl ?_
        refine zd_if_le E (pc := 43) 101 d_U_collect_43 (by decide) (fun hz => ?_) (fun hz => ?_)
        · refine fin v1 r1 m cc CC pp hfv hfr hrun (by omega) (Or.inr (Or.inl ?_)) h7 h21 h8
          by_cases z : cs_G na (cc m) ne ad s go = 0
          · exact z
          · exact absurd hz (nI_nle (by omega) (by omega))
        · have hG0 : 0 < cs_G na (cc m) ne ad s go := by
            by_cases z : cs_G na (cc m) ne ad s go = 0
            · rw [z] at hz; exact absurd (by decide) hz
            · omega
          refine zd_iload_n E (pc := 46) d_U_collect_46 rfl ?_
          refine zd_ldc E (pc := 47) (v := (nI 1000000)) d_U_collect_47 kk_U_51 ?_
          refine zd_nc_ge E (pc := 49) 101 d_U_collect_49 (by decide) ((by omega)) ((by omega)) (fun hq2 => ?_) (fun hq2 => ?_)
          · exact fin v1 r1 m cc CC pp hfv hfr hrun (by omega) (Or.inr (Or.inr hq2)) h7 h21 h8
          · refine zd_aload_n E (pc := 52) d_U_collect_52 rfl ?_
            refine zd_get E (pc := 53) d_U_collect_53 kf_U_18 18 rfl rfl ?_
            refine zd_iload_n E (pc := 56) d_U_collect_56 rfl ?_
            refine zd_aload_n E (pc := 57) d_U_collect_57 rfl ?_
            refine zd_iload_n E (pc := 58) d_U_collect_58 rfl ?_
            refine zd_callV E (pc := 59) d_U_collect_59 kc_U_52 rfl ki_U_nextCut ke_U_nextCut 18 rfl rfl (c_U_nextCut l D t1 hs h19 (fun j hj => ⟨h17 j hj, L31 _ j⟩) hG0 hq2) (by decide) rfl (Nat.le_of_ble_eq_true rfl) (fun v1 ws1 hv1 => ?_)
            obtain ⟨r2, ba, gb, X, Y, hf2, hB, hgb, hXi, hYi, rfl, rfl⟩ := hv1
            generalize hC : cu_mk (cu_ac 1000000 10 ne ad ba (cs_L na (cc m) ne ad s) X Y) na = C
            have hClt : C < 2 ^ 12 := by
              have h1 := cu_mk_lt (cu_ac 1000000 10 ne ad ba (cs_L na (cc m) ne ad s) X Y) na
              have h2 := Nat.pow_le_pow_right (n := 2) (by decide) hna
              omega
            refine zd_iast E (pc := 62) d_U_collect_62 21 rfl (t0 := 0) rfl (m) (rfl) ((by omega)) (by decide) (ws1 := wd k q v1 (va_up r2 21 (upd (r2 21) m (nI C))) ex) rfl ?_
            refine zd_aload_n E (pc := 63) d_U_collect_63 rfl ?_
            refine zd_iload_n E (pc := 64) d_U_collect_64 rfl ?_
            refine zd_iconst E (pc := 65) (v := (nI 1)) d_U_collect_65 (by decide) ?_
            refine zd_iadd E (pc := 66) d_U_collect_66 ?_
            rw [nI_add]
            refine zd_put E (pc := 67) d_U_collect_67 kp_U_40 18 rfl (Nat.le_of_ble_eq_true rfl) (ws1 := wd k q (upd v1 7 (nI (m + 1))) (va_up r2 21 (upd (r2 21) m (nI C))) ex) rfl ?_
            refine zd_aload_n E (pc := 70) d_U_collect_70 rfl ?_
            refine zd_dup E (pc := 71) d_U_collect_71 rfl ?_
            refine zd_get E (pc := 72) d_U_collect_72 kf_U_44 18 rfl rfl ?_
            show Z (wd k q (upd v1 7 (nI (m + 1))) (va_up r2 21 (upd (r2 21) m (nI C))) ex) _ 75 [.int (v1 8), .ref (q 18)]
            rw [h8]
            refine zd_aload_n E (pc := 75) d_U_collect_75 rfl ?_
            refine zd_aload_n E (pc := 76) d_U_collect_76 rfl ?_
            refine zd_get E (pc := 77) d_U_collect_77 kf_U_18 18 rfl rfl ?_
            refine zd_iload_n E (pc := 80) d_U_collect_80 rfl ?_
            refine zd_iald E (pc := 81) d_U_collect_81 21 rfl (t0 := 0) rfl (m) (rfl) ((by omega)) (by decide) ?_
            show Z (wd k q (upd v1 7 (nI (m + 1))) (va_up r2 21 (upd (r2 21) m (nI C))) ex) _ 82 [.int (upd (r2 21) m (nI C) m), .ref (q 18), .int (nI (lm_sum pp m)), .ref (q 18)]
            rw [pk_us]
            have h19b : ∀ i, i < 12 → (va_up r2 21 (upd (r2 21) m (nI C))) 19 i = nI (cc m i) ∧ cc m i ≤ 9 := fun i hi => by
              rw [va_up_ne _ _ (by decide), hf2 19 (by decide)]
              exact h19 i hi
            refine zd_callV E (pc := 82) d_U_collect_82 kc_U_55 rfl ki_U_pay ke_U_pay 18 rfl rfl (c_U_pay l D (v := upd v1 7 (nI (m + 1))) (r := va_up r2 21 (upd (r2 21) m (nI C))) (na := na) (show C < 2 ^ 31 by omega) t1.hna.1 hna h19b) (by decide) rfl (Nat.le_of_ble_eq_true rfl) (fun v1 ws1 hv1 => ?_)
            obtain ⟨r3, hf3, h193, rfl, rfl⟩ := hv1
            refine zd_iadd E (pc := 85) d_U_collect_85 ?_
            rw [nI_add]
            refine zd_put E (pc := 86) d_U_collect_86 kp_U_44 18 rfl (Nat.le_of_ble_eq_true rfl) (ws1 := wd k q (upd (upd v1 7 (nI (m + 1))) 8 (nI (lm_sum pp m + lm_min (cc m) C na))) r3 ex) rfl ?_
            refine zd_aload_n E (pc := 89) d_U_collect_89 rfl ?_
            refine zd_iload_n E (pc := 90) d_U_collect_90 rfl ?_
            have hp9 := lm_min_9 (cc m) C na
            have t3 : tk_C (upd (upd v1 7 (nI (m + 1))) 8 (nI (lm_sum pp m + lm_min (cc m) C na))) r3 nf na fi go co ne ad dr := t1.fr (fun i hi => by rw [pk_un (by omega), pk_un (by omega)]) (by rw [hf3 2 (by decide), va_up_ne _ _ (by decide), hf2 2 (by decide)]) (by rw [hf3 4 (by decide), va_up_ne _ _ (by decide), hf2 4 (by decide)]) (by rw [hf3 5 (by decide), va_up_ne _ _ (by decide), hf2 5 (by decide)]) (by rw [hf3 6 (by decide), va_up_ne _ _ (by decide), hf2 6 (by decide)])
            have h19c : ∀ i, i < 12 → r3 19 i = nI (cs_pay na (cc m) C (lm_min (cc m) C na) i) ∧ cs_pay na (cc m) C (lm_min (cc m) C na) i ≤ 9 := fun i hi => by
              refine ⟨h193 i hi, ?_⟩
              have := (h19 i hi).2
              unfold cs_pay lm_pay
              split
              · split <;> omega
              · exact this
            refine zd_callV E (pc := 91) d_U_collect_91 kc_U_47 rfl ki_U_goalHeight ke_U_goalHeight 18 rfl rfl (c_U_goalHeight l D t3 hs h19c) (by decide) rfl (Nat.le_of_ble_eq_true rfl) (fun v1 ws1 hv1 => ?_)
            obtain ⟨r4, hf4, h174, rfl, rfl⟩ := hv1
            refine zd_istore_n E (pc := 94) d_U_collect_94 (by decide) ?_
            refine zd_iinc E (pc := 95) d_U_collect_95 rfl (bm_inc m) (by decide) ?_
            refine zd_goto E (pc := 98) 36 d_U_collect_98 (by decide) ?_
            have hcc : ∀ j, j ≤ m → va_up cc (m + 1) (cs_pay na (cc m) C (lm_min (cc m) C na)) j = cc j := fun j hj => va_up_ne _ _ (by omega)
            have hccm : va_up cc (m + 1) (cs_pay na (cc m) C (lm_min (cc m) C na)) (m + 1) = cs_pay na (cc m) C (lm_min (cc m) C na) := va_up_self _ _ _
            have hpp : ∀ j, j < m → va_up pp m (lm_min (cc m) C na) j = pp j := fun j hj => va_up_ne _ _ (by omega)
            have hsum : lm_sum (va_up pp m (lm_min (cc m) C na)) (m + 1) = lm_sum pp m + lm_min (cc m) C na := by
              have e1 : ∀ n, n ≤ m → lm_sum (va_up pp m (lm_min (cc m) C na)) n = lm_sum pp n := fun n => by
                induction n with
                | zero => intro _; rfl
                | succ n ihn => intro hn; rw [lm_sum, lm_sum, ihn (by omega), hpp n (by omega)]
              rw [lm_sum, e1 m (Nat.le_refl _), va_up_self]
            have key := ih (m + 1) (upd (upd v1 7 (nI (m + 1))) 8 (nI (lm_sum pp m + lm_min (cc m) C na))) r4 (va_up cc (m + 1) (cs_pay na (cc m) C (lm_min (cc m) C na))) (va_up CC m C) (va_up pp m (lm_min (cc m) C na)) (by omega)
              (fun i a b => by rw [pk_un b, pk_un a]; exact hfv i a b)
              (fun i a b c e => by rw [hf4 i a, hf3 i b, va_up_ne _ _ e, hf2 i c]; exact hfr i a b c e)
              ⟨by rw [hcc 0 (by omega)]; exact hrun.1, fun j hj => by
                by_cases e : j = m
                · subst e
                  rw [hcc j (Nat.le_refl _), hccm, va_up_self, va_up_self]
                  exact ⟨hG0, hq2, ⟨ba, gb, X, Y, hB, hgb, hXi, hYi, hC.symm⟩, rfl, rfl⟩
                · rw [hcc j (by omega), hcc (j + 1) (by omega), va_up_ne _ _ e, va_up_ne _ _ e]
                  exact hrun.2 j (by omega)⟩
              (by rw [pk_un (by decide), pk_us])
              (fun j hj => by
                rw [hf4 21 (by decide), hf3 21 (by decide), va_up_self]
                by_cases e : j = m
                · subst e; rw [pk_us, va_up_self]
                · rw [pk_un e, va_up_ne _ _ e, hf2 21 (by decide)]; exact h21 j (by omega))
              (by rw [pk_us, hsum])
              (fun i hi => by rw [hccm, hf4 19 (by decide)]; exact h19c i hi)
              (fun j hj => by rw [hccm]; exact h174 j hj)
            rw [hccm] at key
            exact key
  refine zd_aload_n E (pc := 0) d_U_collect_0 rfl ?_
  refine zd_get E (pc := 1) d_U_collect_1 kf_U_21 18 rfl rfl ?_
  refine zd_get E (pc := 4) d_U_collect_4 kf_U_29 1 rfl rfl ?_
  refine zd_iconst E (pc := 7) (v := (nI 0)) d_U_collect_7 (by decide) ?_
  refine zd_aload_n E (pc := 8) d_U_collect_8 rfl ?_
  refine zd_get E (pc := 9) d_U_collect_9 kf_U_9 18 rfl rfl ?_
  refine zd_iconst E (pc := 12) (v := (nI 0)) d_U_collect_12 (by decide) ?_
  refine zd_bipush E (pc := 13) (v := (nI 12)) d_U_collect_13 (by decide) ?_
  refine zd_copy E (pc := 15) d_U_collect_15 kz_link kz_native kz_static kz_init 2 19 rfl rfl (t0 := 0) rfl (by decide) (by decide) (Nat.le_of_ble_eq_true rfl) (ws1 := wd k q v (va_up r 19 (va_cpy (r 2) (r 19) 0 0 12)) ex) rfl ?_
  refine zd_aload_n E (pc := 18) d_U_collect_18 rfl ?_
  refine zd_iconst E (pc := 19) (v := (nI 0)) d_U_collect_19 (by decide) ?_
  refine zd_put E (pc := 20) d_U_collect_20 kp_U_40 18 rfl (Nat.le_of_ble_eq_true rfl) (ws1 := wd k q (upd v 7 (nI 0)) (va_up r 19 (va_cpy (r 2) (r 19) 0 0 12)) ex) rfl ?_
  refine zd_aload_n E (pc := 23) d_U_collect_23 rfl ?_
  refine zd_iconst E (pc := 24) (v := (nI 0)) d_U_collect_24 (by decide) ?_
  refine zd_put E (pc := 25) d_U_collect_25 kp_U_44 18 rfl (Nat.le_of_ble_eq_true rfl) (ws1 := wd k q (upd (upd v 7 (nI 0)) 8 (nI 0)) (va_up r 19 (va_cpy (r 2) (r 19) 0 0 12)) ex) rfl ?_
  refine zd_aload_n E (pc := 28) d_U_collect_28 rfl ?_
  refine zd_iload_n E (pc := 29) d_U_collect_29 rfl ?_
  have t0 : tk_C (upd (upd v 7 (nI 0)) 8 (nI 0)) (va_up r 19 (va_cpy (r 2) (r 19) 0 0 12)) nf na fi go co ne ad dr := t.fr (fun i hi => by rw [pk_un (by omega), pk_un (by omega)]) rfl rfl rfl rfl
  have h19 : ∀ i, i < 12 → va_up r 19 (va_cpy (r 2) (r 19) 0 0 12) 19 i = nI (co i) ∧ co i ≤ 9 := fun i hi => by
    rw [va_up_self, sb_cpy0 hi]
    exact t.hco i hi
  refine zd_callV E (pc := 30) d_U_collect_30 kc_U_47 rfl ki_U_goalHeight ke_U_goalHeight 18 rfl rfl (c_U_goalHeight l D t0 hs h19) (by decide) rfl (Nat.le_of_ble_eq_true rfl) (fun v1 ws1 hv1 => ?_)
  obtain ⟨r1, hf1, h171, rfl, rfl⟩ := hv1
  refine zd_istore_n E (pc := 33) d_U_collect_33 (by decide) ?_
  refine zd_iconst E (pc := 34) (v := (nI 0)) d_U_collect_34 (by decide) ?_
  refine zd_istore_n E (pc := 35) d_U_collect_35 (by decide) ?_
  exact loop 12 0 (upd (upd v 7 (nI 0)) 8 (nI 0)) r1 (fun _ => co) (fun _ => 0) (fun _ => 0) rfl (fun i a b => by rw [pk_un b, pk_un a]) (fun i a b c e => by rw [hf1 i a, va_up_ne _ _ b]) ⟨rfl, fun j hj => by omega⟩ (by rw [pk_un (by decide), pk_us]) (fun j hj => by omega) pk_us (fun i hi => by rw [hf1 19 (by decide)]; exact h19 i hi) h171
end AC
