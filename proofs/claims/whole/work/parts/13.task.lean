/-! The task: what its cells hold; the rows of actions (best, drafted); a search's cells. -/
def tk_C (v : Nat → Int32) (r : Nat → Nat → Int32) (nf na fi go : Nat) (co ne ad dr : Nat → Nat) : Prop :=
  (v 0 = nI nf ∧ v 1 = nI na ∧ v 2 = nI fi ∧ v 3 = nI go) ∧ (∀ i, i < 12 → r 2 i = nI (co i) ∧ r 4 i = nI (ne i) ∧ r 5 i = nI (ad i) ∧ r 6 i = nI (dr i)) ∧ (nf ≤ 10 ∧ na ≤ 12 ∧ fi < 2 ^ nf ∧ go < 2 ^ nf) ∧ (∀ i, i < 12 → co i ≤ 9 ∧ ne i < 2 ^ nf ∧ ad i < 2 ^ nf ∧ dr i < 2 ^ nf) ∧ (∀ i, i < na → 1 ≤ co i)
/-- an action's test and outcome -/
def tk_can (ne : Nat → Nat) (a s : Nat) : Bool := decide (s &&& ne a = ne a)
def tk_af (ad dr : Nat → Nat) (a s : Nat) : Nat := bm_dif s (dr a) ||| ad a
def tk_met (go s : Nat) : Bool := decide (s &&& go = go)
theorem tk_pow {n : Nat} (h : n ≤ 10) : 2 ^ n ≤ 1024 := Nat.pow_le_pow_right (n := 2) (by decide) h
theorem tk_or_lt {a b n : Nat} (ha : a < 2 ^ n) (hb : b < 2 ^ n) : a ||| b < 2 ^ n := Nat.or_lt_two_pow ha hb
theorem tk_dif_lt {a b n : Nat} (ha : a < 2 ^ n) : bm_dif a b < 2 ^ n := bm_lt fun i hi => by
  rw [bm_dif_bit, Bool.and_eq_true] at hi
  exact bm_bit_lt ha hi.1
theorem tk_af_lt {ad dr : Nat → Nat} {a s n : Nat} (hs : s < 2 ^ n) (ha : ad a < 2 ^ n) : tk_af ad dr a s < 2 ^ n := tk_or_lt (tk_dif_lt hs) ha
section TK
variable {v v1 : Nat → Int32} {r r1 : Nat → Nat → Int32} {nf na fi go : Nat} {co ne ad dr : Nat → Nat}
theorem tk_C.fr (h : tk_C v r nf na fi go co ne ad dr) (hv : ∀ i, i < 4 → v1 i = v i) (h2 : r1 2 = r 2) (h4 : r1 4 = r 4) (h5 : r1 5 = r 5) (h6 : r1 6 = r 6) : tk_C v1 r1 nf na fi go co ne ad dr := by
  obtain ⟨⟨a0, a1, a2, a3⟩, b, c, d, e⟩ := h
  refine ⟨⟨by rw [hv 0 (by decide)]; exact a0, by rw [hv 1 (by decide)]; exact a1, by rw [hv 2 (by decide)]; exact a2, by rw [hv 3 (by decide)]; exact a3⟩, fun i hi => ?_, c, d, e⟩
  rw [h2, h4, h5, h6]
  exact b i hi
theorem tk_C.n31 (h : tk_C v r nf na fi go co ne ad dr) : 2 ^ nf ≤ 1024 := tk_pow h.2.2.1.1
theorem tk_C.hne (h : tk_C v r nf na fi go co ne ad dr) : ∀ i, i < 12 → r 4 i = nI (ne i) ∧ ne i < 2 ^ 31 := fun i hi => ⟨(h.2.1 i hi).2.1, by have := (h.2.2.2.1 i hi).2.1; have := h.n31; omega⟩
theorem tk_C.had (h : tk_C v r nf na fi go co ne ad dr) : ∀ i, i < 12 → r 5 i = nI (ad i) ∧ ad i < 2 ^ 31 := fun i hi => ⟨(h.2.1 i hi).2.2.1, by have := (h.2.2.2.1 i hi).2.2.1; have := h.n31; omega⟩
theorem tk_C.had0 (h : tk_C v r nf na fi go co ne ad dr) : ∀ i, i < 12 → r 5 i = nI (ad i) := fun i hi => (h.2.1 i hi).2.2.1
theorem tk_C.hdr0 (h : tk_C v r nf na fi go co ne ad dr) : ∀ i, i < 12 → r 6 i = nI (dr i) := fun i hi => (h.2.1 i hi).2.2.2
theorem tk_C.hco (h : tk_C v r nf na fi go co ne ad dr) : ∀ i, i < 12 → r 2 i = nI (co i) ∧ co i ≤ 9 := fun i hi => ⟨(h.2.1 i hi).1, (h.2.2.2.1 i hi).1⟩
theorem tk_C.hna (h : tk_C v r nf na fi go co ne ad dr) : v 1 = nI na ∧ na ≤ 12 := ⟨h.1.2.1, h.2.2.1.2.1⟩
theorem tk_C.hgo (h : tk_C v r nf na fi go co ne ad dr) : v 3 = nI go ∧ go < 2 ^ 31 := ⟨h.1.2.2.2, by have := h.2.2.1.2.2.2; have := h.n31; omega⟩
theorem tk_C.haf (h : tk_C v r nf na fi go co ne ad dr) {a s : Nat} (ha : a < 12) (hs : s < 1024) : tk_af ad dr a s < 1024 := tk_af_lt (n := 10) hs (by have := (h.2.2.2.1 a ha).2.2.1; have := h.n31; omega)
end TK
/-- a search's cells: n states in their order o, at the costs d; all others have none -/
def sr_st (v : Nat → Int32) (r : Nat → Nat → Int32) (n : Nat) (o d : Nat → Nat) : Prop :=
  v 4 = nI n ∧ (∀ i, i < n → o i < 1024) ∧ (∀ i j, i < n → j < n → o i = o j → i = j) ∧ (∀ i, i < n → r 8 i = nI (o i)) ∧ (∀ i, i < n → r 9 (o i) = nI (d i) ∧ d i < 20000) ∧ (∀ s, s < 1024 → (∀ i, i < n → o i ≠ s) → r 9 s = -1)
/-- what a search leaves as it is -/
def sr_fr (v v1 : Nat → Int32) (r r1 : Nat → Nat → Int32) : Prop := (∀ i, i ≠ 4 → v1 i = v i) ∧ (∀ i, i ≠ 8 → i ≠ 9 → i ≠ 10 → i ≠ 11 → r1 i = r i)
theorem sr_fr.rf (v : Nat → Int32) (r : Nat → Nat → Int32) : sr_fr v v r r := ⟨fun _ _ => rfl, fun _ _ _ _ _ => rfl⟩
theorem sr_fr.tr {v v1 v2 : Nat → Int32} {r r1 r2 : Nat → Nat → Int32} (h : sr_fr v v1 r r1) (g : sr_fr v1 v2 r1 r2) : sr_fr v v2 r r2 := ⟨fun i hi => (g.1 i hi).trans (h.1 i hi), fun i a b c d => (g.2 i a b c d).trans (h.2 i a b c d)⟩
theorem sr_fr.tk {v v1 : Nat → Int32} {r r1 : Nat → Nat → Int32} {nf na fi go : Nat} {co ne ad dr : Nat → Nat} (h : sr_fr v v1 r r1) (t : tk_C v r nf na fi go co ne ad dr) : tk_C v1 r1 nf na fi go co ne ad dr :=
  t.fr (fun i hi => h.1 i (by omega)) (h.2 2 (by decide) (by decide) (by decide) (by decide)) (h.2 4 (by decide) (by decide) (by decide) (by decide)) (h.2 5 (by decide) (by decide) (by decide) (by decide)) (h.2 6 (by decide) (by decide) (by decide) (by decide))
theorem sr_le {v : Nat → Int32} {r : Nat → Nat → Int32} {n : Nat} {o d : Nat → Nat} (h : sr_st v r n o d) : n ≤ 1024 := gw_pigeon 1024 h.2.1 h.2.2.1
section SR
variable {k : Nat → ClassId} {q : Nat → Nat} {v : Nat → Int32} {r : Nat → Nat → Int32} {ex : va_W}
set_option maxRecDepth 100000 in
set_option maxHeartbeats 4000000 in
theorem c_S_forget (l : Launch) (D : va_G) {n : Nat} {o d : Nat → Nat} (h : sr_st v r n o d) : zd_Ct l D classes (wd_ty k) gd_T y_S_forget b_S_forget 2 none (zd_rm 0) [.ref (q 7)] (wd k q v r ex)
    (fun v1 w1 => ∃ v2 r2, sr_fr v v2 r r2 ∧ sr_st v2 r2 0 o d ∧ v1 = none ∧ w1 = wd k q v2 r2 ex) := by
  refine zd_met gd_all (by decide) rfl (Nat.le_of_ble_eq_true rfl) (fun Z E => ?_)
  show Z (wd k q v r ex) [some (.ref (q 7)), none] 0 []
  have hn := sr_le h
  obtain ⟨h1, h2, h3, h4, h5, h6⟩ := h
  have loop : ∀ m i r1, i + m = n → (∀ j, j ≠ 9 → r1 j = r j) → (∀ s, s < 1024 → (∀ j, i ≤ j → j < n → o j ≠ s) → r1 9 s = -1) → Z (wd k q v r1 ex) [some (.ref (q 7)), some (.int (nI i))] 2 [] := by
    intro m
    induction m with
    | zero =>
      intro i r1 hi hf hr
      have e : i = n := by omega
      subst e
      refine zd_iload_n E (pc := 2) d_S_forget_2 rfl ?_
      refine zd_aload_n E (pc := 3) d_S_forget_3 rfl ?_
      refine zd_get E (pc := 4) d_S_forget_4 kf_S_45 7 rfl rfl ?_
      rw [h1]
      refine zd_nc_ge E (pc := 7) 28 d_S_forget_7 (by decide) ((by omega)) ((by omega)) (fun hc => ?_) (fun hc => ?_)
      · refine zd_aload_n E (pc := 28) d_S_forget_28 rfl ?_
        refine zd_iconst E (pc := 29) (v := (nI 0)) d_S_forget_29 (by decide) ?_
        refine zd_put E (pc := 30) d_S_forget_30 kp_S_45 7 rfl (Nat.le_of_ble_eq_true rfl) (ws1 := wd k q (upd v 4 (nI 0)) r1 ex) rfl ?_
        exact zd_vret E (pc := 33) d_S_forget_33 ⟨_, _, ⟨fun j hj => pk_un hj, fun j a b c e => hf j b⟩, ⟨pk_us, fun j hj => by omega, fun j _ hj => by omega, fun j hj => by omega, fun j hj => by omega, fun s hs _ => hr s hs (fun j a b => by omega)⟩, rfl, rfl⟩
      · omega
    | succ m ih =>
      intro i r1 hi hf hr
      have hin : i < n := by omega
      have f8 : r1 8 = r 8 := hf 8 (by decide)
      refine zd_iload_n E (pc := 2) d_S_forget_2 rfl ?_
      refine zd_aload_n E (pc := 3) d_S_forget_3 rfl ?_
      refine zd_get E (pc := 4) d_S_forget_4 kf_S_45 7 rfl rfl ?_
      rw [h1]
      refine zd_nc_ge E (pc := 7) 28 d_S_forget_7 (by decide) ((by omega)) ((by omega)) (fun hc => ?_) (fun hc => ?_)
      · omega
      · refine zd_aload_n E (pc := 10) d_S_forget_10 rfl ?_
        refine zd_get E (pc := 11) d_S_forget_11 kf_S_15 7 rfl rfl ?_
        refine zd_aload_n E (pc := 14) d_S_forget_14 rfl ?_
        refine zd_get E (pc := 15) d_S_forget_15 kf_S_9 7 rfl rfl ?_
        refine zd_iload_n E (pc := 18) d_S_forget_18 rfl ?_
        refine zd_iald E (pc := 19) d_S_forget_19 8 rfl (t0 := 0) rfl (i) (rfl) ((by omega)) (by decide) ?_
        rw [f8, h4 i hin]
        refine zd_iconst E (pc := 20) (v := (-1)) d_S_forget_20 (by decide) ?_
        refine zd_iast E (pc := 21) d_S_forget_21 9 rfl (t0 := 0) rfl (o i) (rfl) (h2 i hin) (by decide) (ws1 := wd k q v (va_up r1 9 (upd (r1 9) (o i) (-1))) ex) rfl ?_
        refine zd_iinc E (pc := 22) d_S_forget_22 rfl (bm_inc i) (by decide) ?_
        refine zd_goto E (pc := 25) 2 d_S_forget_25 (by decide) ?_
        refine ih (i + 1) _ (by omega) (fun j hj => by rw [va_up_ne _ _ hj]; exact hf j hj) (fun s hs hne => ?_)
        rw [va_up_self]
        by_cases e : s = o i
        · subst e; rw [pk_us]
        · rw [pk_un e]
          refine hr s hs (fun j a b => ?_)
          by_cases ej : j = i
          · subst ej; exact fun z => e z.symm
          · exact hne j (by omega) b
  refine zd_iconst E (pc := 0) (v := (nI 0)) d_S_forget_0 (by decide) ?_
  refine zd_istore_n E (pc := 1) d_S_forget_1 (by decide) ?_
  exact loop n 0 r (by omega) (fun _ _ => rfl) (fun s hs hne => h6 s hs (fun j hj => hne j (Nat.zero_le _) hj))
set_option maxRecDepth 100000 in
set_option maxHeartbeats 4000000 in
theorem c_S_settle (l : Launch) (D : va_G) {n t now : Nat} {o d : Nat → Nat} (h : sr_st v r n o d) (ht : t < 1024) (hnow : now < 20000) : zd_Ct l D classes (wd_ty k) gd_T y_S_settle b_S_settle 3 none (zd_rm 0) [.ref (q 7), .int (nI t), .int (nI now)] (wd k q v r ex)
    (fun v1 w1 => ∃ v2 r2 n2 o2 d2, sr_fr v v2 r r2 ∧ r2 11 = r 11 ∧ sr_st v2 r2 n2 o2 d2 ∧ (((∃ i, i < n ∧ o i = t) ∧ n2 = n ∧ o2 = o ∧ d2 = d) ∨ ((∀ i, i < n → o i ≠ t) ∧ n2 = n + 1 ∧ o2 = va_up o n t ∧ d2 = va_up d n now)) ∧ v1 = none ∧ w1 = wd k q v2 r2 ex) := by
  refine zd_met gd_all (by decide) rfl (Nat.le_of_ble_eq_true rfl) (fun Z E => ?_)
  show Z (wd k q v r ex) [some (.ref (q 7)), some (.int (nI t)), some (.int (nI now))] 0 []
  have hn := sr_le h
  have hst := h
  obtain ⟨h1, h2, h3, h4, h5, h6⟩ := h
  refine zd_aload_n E (pc := 0) d_S_settle_0 rfl ?_
  refine zd_get E (pc := 1) d_S_settle_1 kf_S_15 7 rfl rfl ?_
  refine zd_iload_n E (pc := 4) d_S_settle_4 rfl ?_
  refine zd_iald E (pc := 5) d_S_settle_5 9 rfl (t0 := 0) rfl (t) (rfl) (ht) (by decide) ?_
  refine zd_iconst E (pc := 6) (v := (-1)) d_S_settle_6 (by decide) ?_
  by_cases hq : ∃ i, i < n ∧ o i = t
  · have hq1 := hq
    obtain ⟨i, hi, rfl⟩ := hq1
    rw [(h5 i hi).1]
    refine zd_ic_ne E (pc := 7) 37 d_S_settle_7 (by decide) (fun hc => ?_) (fun hc => ?_)
    · exact zd_vret E (pc := 37) d_S_settle_37 ⟨v, r, n, o, d, sr_fr.rf v r, rfl, hst, Or.inl ⟨hq, rfl, rfl, rfl⟩, rfl, rfl⟩
    · exact absurd (Classical.not_not.mp hc) (bm_m1ne (by have := (h5 i hi).2; omega))
  · have hne : ∀ i, i < n → o i ≠ t := fun i hi z => hq ⟨i, hi, z⟩
    rw [h6 t ht hne]
    have hlt : n < 1024 := by
      have := gw_pigeon 1024 (n := n + 1) (o := va_up o n t) (fun i hi => by
        by_cases e : i = n
        · subst e; rw [va_up_self]; exact ht
        · rw [va_up_ne _ _ e]; exact h2 i (by omega)) (fun i j hi hj e => by
        by_cases ei : i = n
        · by_cases ej : j = n
          · omega
          · subst ei
            rw [va_up_self, va_up_ne _ _ ej] at e
            exact (hne j (by omega) e.symm).elim
        · by_cases ej : j = n
          · subst ej
            rw [va_up_self, va_up_ne _ _ ei] at e
            exact (hne i (by omega) e).elim
          · rw [va_up_ne _ _ ei, va_up_ne _ _ ej] at e
            exact h3 i j (by omega) (by omega) e)
      omega
    refine zd_ic_ne E (pc := 7) 37 d_S_settle_7 (by decide) (fun hc => ?_) (fun hc => ?_)
    · exact absurd rfl hc
    · refine zd_aload_n E (pc := 10) d_S_settle_10 rfl ?_
      refine zd_get E (pc := 11) d_S_settle_11 kf_S_15 7 rfl rfl ?_
      refine zd_iload_n E (pc := 14) d_S_settle_14 rfl ?_
      refine zd_iload_n E (pc := 15) d_S_settle_15 rfl ?_
      refine zd_iast E (pc := 16) d_S_settle_16 9 rfl (t0 := 0) rfl (t) (rfl) (ht) (by decide) (ws1 := wd k q v (va_up r 9 (upd (r 9) t (nI now))) ex) rfl ?_
      refine zd_aload_n E (pc := 17) d_S_settle_17 rfl ?_
      refine zd_get E (pc := 18) d_S_settle_18 kf_S_9 7 rfl rfl ?_
      refine zd_aload_n E (pc := 21) d_S_settle_21 rfl ?_
      refine zd_get E (pc := 22) d_S_settle_22 kf_S_45 7 rfl rfl ?_
      rw [h1]
      refine zd_iload_n E (pc := 25) d_S_settle_25 rfl ?_
      refine zd_iast E (pc := 26) d_S_settle_26 8 rfl (t0 := 0) rfl (n) (rfl) (hlt) (by decide) (ws1 := wd k q v (va_up (va_up r 9 (upd (r 9) t (nI now))) 8 (upd (r 8) n (nI t))) ex) rfl ?_
      refine zd_aload_n E (pc := 27) d_S_settle_27 rfl ?_
      refine zd_dup E (pc := 28) d_S_settle_28 rfl ?_
      refine zd_get E (pc := 29) d_S_settle_29 kf_S_45 7 rfl rfl ?_
      rw [h1]
      refine zd_iconst E (pc := 32) (v := (nI 1)) d_S_settle_32 (by decide) ?_
      refine zd_iadd E (pc := 33) d_S_settle_33 ?_
      rw [nI_add]
      refine zd_put E (pc := 34) d_S_settle_34 kp_S_45 7 rfl (Nat.le_of_ble_eq_true rfl) (ws1 := wd k q (upd v 4 (nI (n + 1))) (va_up (va_up r 9 (upd (r 9) t (nI now))) 8 (upd (r 8) n (nI t))) ex) rfl ?_
      have r8 : va_up (va_up r 9 (upd (r 9) t (nI now))) 8 (upd (r 8) n (nI t)) 8 = upd (r 8) n (nI t) := va_up_self _ _ _
      have r9 : va_up (va_up r 9 (upd (r 9) t (nI now))) 8 (upd (r 8) n (nI t)) 9 = upd (r 9) t (nI now) := by rw [va_up_ne _ _ (by decide), va_up_self]
      refine zd_vret E (pc := 37) d_S_settle_37 ⟨upd v 4 (nI (n + 1)), va_up (va_up r 9 (upd (r 9) t (nI now))) 8 (upd (r 8) n (nI t)), n + 1, va_up o n t, va_up d n now, ⟨fun j hj => pk_un hj, fun j a b c e => by rw [va_up_ne _ _ a, va_up_ne _ _ b]⟩, rfl, ⟨pk_us, fun i hi => ?_, fun i j hi hj e => ?_, fun i hi => ?_, fun i hi => ?_, fun s hs hs2 => ?_⟩, Or.inr ⟨hne, rfl, rfl, rfl⟩, rfl, rfl⟩
      · by_cases e : i = n
        · subst e; rw [va_up_self]; exact ht
        · rw [va_up_ne _ _ e]; exact h2 i (by omega)
      · by_cases ei : i = n
        · by_cases ej : j = n
          · omega
          · subst ei
            rw [va_up_self, va_up_ne _ _ ej] at e
            exact (hne j (by omega) e.symm).elim
        · by_cases ej : j = n
          · subst ej
            rw [va_up_self, va_up_ne _ _ ei] at e
            exact (hne i (by omega) e).elim
          · rw [va_up_ne _ _ ei, va_up_ne _ _ ej] at e
            exact h3 i j (by omega) (by omega) e
      · rw [r8]
        by_cases e : i = n
        · subst e; rw [va_up_self, pk_us]
        · rw [va_up_ne _ _ e, pk_un e]; exact h4 i (by omega)
      · rw [r9]
        by_cases e : i = n
        · subst e
          rw [va_up_self, va_up_self, pk_us]
          exact ⟨rfl, hnow⟩
        · rw [va_up_ne _ _ e, va_up_ne _ _ e, pk_un (hne i (by omega))]
          exact h5 i (by omega)
      · rw [r9]
        have e1 : s ≠ t := fun z => by
          have := hs2 n (by omega)
          rw [va_up_self] at this
          exact this z.symm
        rw [pk_un e1]
        refine h6 s hs (fun i hi => ?_)
        have := hs2 i (by omega)
        rw [va_up_ne _ _ (by omega)] at this
        exact this
end SR
