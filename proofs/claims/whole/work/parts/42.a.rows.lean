/-! Rows on longs; the law's decode rows. -/
section LR
variable {Z : va_W → List (Option Value) → Nat → List Value → Prop} {l : Launch} {D : va_G} {cl : List vw_C} {tys : List (ClassId × FieldType)} {cc : ByteArray} {nL : Nat} {own : String} {Ts : List Cond} {R : Room} {ret : Option FieldType} {post : Option Value → va_W → Prop}
variable {ws : va_W} {L : List (Option Value)} {pc : Nat} {st : List Value}
theorem zd_i2l (E : zd_E Z l D cl tys cc nL own Ts R ret post) {x : Int32} (d : decode cc pc = .ok (.i2l, 1)) (k : Z ws L (pc + 1) (.long x.toInt64 :: st)) : Z ws L pc (.int x :: st) := by
  obtain ⟨p, e, s, m, args, below, meth, c, A, nc, ns, Q, ⟨hx, hb, hml, hown, hts, hK, hr, hlk⟩, ⟨hnc, hns⟩, hQ, rfl⟩ := E
  exact fun H locs ls hP hD hS hl => lv_i2l hx hb d rfl (k H locs ls hP hD hS hl)
theorem zd_lconst (E : zd_E Z l D cl tys cc nL own Ts R ret post) {n : Fin 2} {v : Int64} (d : decode cc pc = .ok (.lconst n, 1)) (hv : Int64.ofNat (n : Nat) = v) (k : Z ws L (pc + 1) (.long v :: st)) : Z ws L pc st := by
  obtain ⟨p, e, s, m, args, below, meth, c, A, nc, ns, Q, ⟨hx, hb, hml, hown, hts, hK, hr, hlk⟩, ⟨hnc, hns⟩, hQ, rfl⟩ := E
  exact fun H locs ls hP hD hS hl => lv_lconst hx hb d hv (k H locs ls hP hD hS hl)
theorem zd_lcmp (E : zd_E Z l D cl tys cc nL own Ts R ret post) {x y : Int64} (d : decode cc pc = .ok (.lcmp, 1)) (k : Z ws L (pc + 1) (.int (lg_cmp x y) :: st)) : Z ws L pc (.long y :: .long x :: st) := by
  obtain ⟨p, e, s, m, args, below, meth, c, A, nc, ns, Q, ⟨hx, hb, hml, hown, hts, hK, hr, hlk⟩, ⟨hnc, hns⟩, hQ, rfl⟩ := E
  exact fun H locs ls hP hD hS hl => W.lcmp hx hb d (k H locs ls hP hD hS hl)
theorem zd_lald (E : zd_E Z l D cl tys cc nL own Ts R ret post) {a t0 : Nat} {cA : ClassId} {f : Nat → Int64} (d : decode cc pc = .ok (.laload, 1)) (j : Nat) (ha : ws[j]? = some (a, .inl (cA, 1, .inr (.inl f)))) (ht : tys[t0]? = some (cA, .long)) (k : Z ws L (pc + 1) (.long (f 0) :: st)) : Z ws L pc (.int (nI 0) :: .ref a :: st) := by
  obtain ⟨p, e, s, m, args, below, meth, c, A, nc, ns, Q, ⟨hx, hb, hml, hown, hts, hK, hr, hlk⟩, ⟨hnc, hns⟩, hQ, rfl⟩ := E
  exact fun H locs ls hP hD hS hl => va_lald hx hb hK hP j t0 ha ht (vp_in_nI (by decide) (by decide)) d (k H locs ls hP hD hS hl)
theorem zd_last (E : zd_E Z l D cl tys cc nL own Ts R ret post) {a t0 : Nat} {cA : ClassId} {f : Nat → Int64} {x : Int64} {ws1 : va_W} (d : decode cc pc = .ok (.lastore, 1)) (j : Nat) (ha : ws[j]? = some (a, .inl (cA, 1, .inr (.inl f)))) (ht : tys[t0]? = some (cA, .long)) (hw : ws.set j (a, .inl (cA, 1, .inr (.inl (vp_updL f 0 x)))) = ws1) (k : Z ws1 L (pc + 1) st) : Z ws L pc (.long x :: .int (nI 0) :: .ref a :: st) := by
  subst hw
  obtain ⟨p, e, s, m, args, below, meth, c, A, nc, ns, Q, ⟨hx, hb, hml, hown, hts, hK, hr, hlk⟩, ⟨hnc, hns⟩, hQ, rfl⟩ := E
  exact fun H locs ls hP hD hS hl => va_last hx hb hK hP hD hS j t0 ha ht (vp_in_nI (by decide) (by decide)) d (fun H1 locs1 hP1 hD1 hS1 => k H1 locs1 ls hP1 hD1 hS1 hl)
theorem lg_cmp0 {x y : Int64} : lg_cmp x y = 0 ↔ x = y := by
  unfold lg_cmp
  constructor
  · intro h
    split at h
    · cases h
    · split at h
      · rename_i h1 h2
        first | exact h2 | (apply Int64.toInt_inj.mp; simp only [Int64.lt_iff_toInt_lt] at h1 h2; omega)
      · first | cases h | (rename_i h1 h2; apply Int64.toInt_inj.mp; simp only [Int64.lt_iff_toInt_lt] at h1 h2; omega)
  · rintro rfl
    simp
end LR
theorem d_L_fact_0 : decode b_L_fact 0 = .ok (.aload_n 3, 1) := by decide +kernel
theorem d_L_fact_1 : decode b_L_fact 1 = .ok (.iconst 0, 1) := by decide +kernel
theorem d_L_fact_2 : decode b_L_fact 2 = .ok (.aload_n 0, 1) := by decide +kernel
theorem d_L_fact_3 : decode b_L_fact 3 = .ok (.iload_n 1, 1) := by decide +kernel
theorem d_L_fact_4 : decode b_L_fact 4 = .ok (.iload_n 2, 1) := by decide +kernel
theorem d_L_fact_5 : decode b_L_fact 5 = .ok (.invokevirtual 7, 3) := by decide +kernel
theorem d_L_fact_8 : decode b_L_fact 8 = .ok (.i2l, 1) := by decide +kernel
theorem d_L_fact_9 : decode b_L_fact 9 = .ok (.lastore, 1) := by decide +kernel
theorem d_L_fact_10 : decode b_L_fact 10 = .ok (.goto 7, 3) := by decide +kernel
theorem d_L_fact_13 : decode b_L_fact 13 = .ok (.astore 4, 2) := by decide +kernel
theorem d_L_fact_15 : decode b_L_fact 15 = .ok (.iconst 1, 1) := by decide +kernel
theorem d_L_fact_16 : decode b_L_fact 16 = .ok (.ireturn, 1) := by decide +kernel
theorem d_L_fact_17 : decode b_L_fact 17 = .ok (.iconst 0, 1) := by decide +kernel
theorem d_L_fact_18 : decode b_L_fact 18 = .ok (.ireturn, 1) := by decide +kernel
theorem d_L_action_0 : decode b_L_action 0 = .ok (.aload_n 2, 1) := by decide +kernel
theorem d_L_action_1 : decode b_L_action 1 = .ok (.iconst 0, 1) := by decide +kernel
theorem d_L_action_2 : decode b_L_action 2 = .ok (.aload_n 0, 1) := by decide +kernel
theorem d_L_action_3 : decode b_L_action 3 = .ok (.iload_n 1, 1) := by decide +kernel
theorem d_L_action_4 : decode b_L_action 4 = .ok (.invokevirtual 15, 3) := by decide +kernel
theorem d_L_action_7 : decode b_L_action 7 = .ok (.i2l, 1) := by decide +kernel
theorem d_L_action_8 : decode b_L_action 8 = .ok (.lastore, 1) := by decide +kernel
theorem d_L_action_9 : decode b_L_action 9 = .ok (.goto 9, 3) := by decide +kernel
theorem d_L_action_12 : decode b_L_action 12 = .ok (.astore_n 3, 1) := by decide +kernel
theorem d_L_action_13 : decode b_L_action 13 = .ok (.iconst 1, 1) := by decide +kernel
theorem d_L_action_14 : decode b_L_action 14 = .ok (.ireturn, 1) := by decide +kernel
theorem d_L_action_15 : decode b_L_action 15 = .ok (.astore_n 3, 1) := by decide +kernel
theorem d_L_action_16 : decode b_L_action 16 = .ok (.iconst 2, 1) := by decide +kernel
theorem d_L_action_17 : decode b_L_action 17 = .ok (.ireturn, 1) := by decide +kernel
theorem d_L_action_18 : decode b_L_action 18 = .ok (.iconst 0, 1) := by decide +kernel
theorem d_L_action_19 : decode b_L_action 19 = .ok (.ireturn, 1) := by decide +kernel
theorem d_L_link_0 : decode b_L_link 0 = .ok (.aload_n 0, 1) := by decide +kernel
theorem d_L_link_1 : decode b_L_link 1 = .ok (.iload_n 1, 1) := by decide +kernel
theorem d_L_link_2 : decode b_L_link 2 = .ok (.iload_n 2, 1) := by decide +kernel
theorem d_L_link_3 : decode b_L_link 3 = .ok (.iload_n 3, 1) := by decide +kernel
theorem d_L_link_4 : decode b_L_link 4 = .ok (.invokevirtual 21, 3) := by decide +kernel
theorem d_L_link_7 : decode b_L_link 7 = .ok (.goto 15, 3) := by decide +kernel
theorem d_L_link_10 : decode b_L_link 10 = .ok (.astore 4, 2) := by decide +kernel
theorem d_L_link_12 : decode b_L_link 12 = .ok (.iconst 1, 1) := by decide +kernel
theorem d_L_link_13 : decode b_L_link 13 = .ok (.ireturn, 1) := by decide +kernel
theorem d_L_link_14 : decode b_L_link 14 = .ok (.astore 4, 2) := by decide +kernel
theorem d_L_link_16 : decode b_L_link 16 = .ok (.iconst 2, 1) := by decide +kernel
theorem d_L_link_17 : decode b_L_link 17 = .ok (.ireturn, 1) := by decide +kernel
theorem d_L_link_18 : decode b_L_link 18 = .ok (.astore 4, 2) := by decide +kernel
theorem d_L_link_20 : decode b_L_link 20 = .ok (.iconst 3, 1) := by decide +kernel
theorem d_L_link_21 : decode b_L_link 21 = .ok (.ireturn, 1) := by decide +kernel
theorem d_L_link_22 : decode b_L_link 22 = .ok (.iconst 0, 1) := by decide +kernel
theorem d_L_link_23 : decode b_L_link 23 = .ok (.ireturn, 1) := by decide +kernel
theorem d_L_holds_0 : decode b_L_holds 0 = .ok (.aload_n 2, 1) := by decide +kernel
theorem d_L_holds_1 : decode b_L_holds 1 = .ok (.iconst 0, 1) := by decide +kernel
theorem d_L_holds_2 : decode b_L_holds 2 = .ok (.aload_n 0, 1) := by decide +kernel
theorem d_L_holds_3 : decode b_L_holds 3 = .ok (.iload_n 1, 1) := by decide +kernel
theorem d_L_holds_4 : decode b_L_holds 4 = .ok (.invokevirtual 27, 3) := by decide +kernel
theorem d_L_holds_7 : decode b_L_holds 7 = .ok (.ifCond .eq 7, 3) := by decide +kernel
theorem d_L_holds_10 : decode b_L_holds 10 = .ok (.lconst 1, 1) := by decide +kernel
theorem d_L_holds_11 : decode b_L_holds 11 = .ok (.goto 4, 3) := by decide +kernel
theorem d_L_holds_14 : decode b_L_holds 14 = .ok (.lconst 0, 1) := by decide +kernel
theorem d_L_holds_15 : decode b_L_holds 15 = .ok (.lastore, 1) := by decide +kernel
theorem d_L_holds_16 : decode b_L_holds 16 = .ok (.goto 6, 3) := by decide +kernel
theorem d_L_holds_19 : decode b_L_holds 19 = .ok (.astore_n 3, 1) := by decide +kernel
theorem d_L_holds_20 : decode b_L_holds 20 = .ok (.iconst 1, 1) := by decide +kernel
theorem d_L_holds_21 : decode b_L_holds 21 = .ok (.ireturn, 1) := by decide +kernel
theorem d_L_holds_22 : decode b_L_holds 22 = .ok (.iconst 0, 1) := by decide +kernel
theorem d_L_holds_23 : decode b_L_holds 23 = .ok (.ireturn, 1) := by decide +kernel
theorem d_L_applicable_0 : decode b_L_applicable 0 = .ok (.aload_n 2, 1) := by decide +kernel
theorem d_L_applicable_1 : decode b_L_applicable 1 = .ok (.iconst 0, 1) := by decide +kernel
theorem d_L_applicable_2 : decode b_L_applicable 2 = .ok (.aload_n 0, 1) := by decide +kernel
theorem d_L_applicable_3 : decode b_L_applicable 3 = .ok (.iload_n 1, 1) := by decide +kernel
theorem d_L_applicable_4 : decode b_L_applicable 4 = .ok (.invokevirtual 31, 3) := by decide +kernel
theorem d_L_applicable_7 : decode b_L_applicable 7 = .ok (.ifCond .eq 7, 3) := by decide +kernel
theorem d_L_applicable_10 : decode b_L_applicable 10 = .ok (.lconst 1, 1) := by decide +kernel
theorem d_L_applicable_11 : decode b_L_applicable 11 = .ok (.goto 4, 3) := by decide +kernel
theorem d_L_applicable_14 : decode b_L_applicable 14 = .ok (.lconst 0, 1) := by decide +kernel
theorem d_L_applicable_15 : decode b_L_applicable 15 = .ok (.lastore, 1) := by decide +kernel
theorem d_L_applicable_16 : decode b_L_applicable 16 = .ok (.goto 6, 3) := by decide +kernel
theorem d_L_applicable_19 : decode b_L_applicable 19 = .ok (.astore_n 3, 1) := by decide +kernel
theorem d_L_applicable_20 : decode b_L_applicable 20 = .ok (.iconst 1, 1) := by decide +kernel
theorem d_L_applicable_21 : decode b_L_applicable 21 = .ok (.ireturn, 1) := by decide +kernel
theorem d_L_applicable_22 : decode b_L_applicable 22 = .ok (.iconst 0, 1) := by decide +kernel
theorem d_L_applicable_23 : decode b_L_applicable 23 = .ok (.ireturn, 1) := by decide +kernel
theorem d_L_apply_0 : decode b_L_apply 0 = .ok (.aload_n 2, 1) := by decide +kernel
theorem d_L_apply_1 : decode b_L_apply 1 = .ok (.iconst 0, 1) := by decide +kernel
theorem d_L_apply_2 : decode b_L_apply 2 = .ok (.aload_n 0, 1) := by decide +kernel
theorem d_L_apply_3 : decode b_L_apply 3 = .ok (.iload_n 1, 1) := by decide +kernel
theorem d_L_apply_4 : decode b_L_apply 4 = .ok (.invokevirtual 34, 3) := by decide +kernel
theorem d_L_apply_7 : decode b_L_apply 7 = .ok (.ifCond .eq 7, 3) := by decide +kernel
theorem d_L_apply_10 : decode b_L_apply 10 = .ok (.lconst 1, 1) := by decide +kernel
theorem d_L_apply_11 : decode b_L_apply 11 = .ok (.goto 4, 3) := by decide +kernel
theorem d_L_apply_14 : decode b_L_apply 14 = .ok (.lconst 0, 1) := by decide +kernel
theorem d_L_apply_15 : decode b_L_apply 15 = .ok (.lastore, 1) := by decide +kernel
theorem d_L_apply_16 : decode b_L_apply 16 = .ok (.goto 9, 3) := by decide +kernel
theorem d_L_apply_19 : decode b_L_apply 19 = .ok (.astore_n 3, 1) := by decide +kernel
theorem d_L_apply_20 : decode b_L_apply 20 = .ok (.iconst 1, 1) := by decide +kernel
theorem d_L_apply_21 : decode b_L_apply 21 = .ok (.ireturn, 1) := by decide +kernel
theorem d_L_apply_22 : decode b_L_apply 22 = .ok (.astore_n 3, 1) := by decide +kernel
theorem d_L_apply_23 : decode b_L_apply 23 = .ok (.iconst 2, 1) := by decide +kernel
theorem d_L_apply_24 : decode b_L_apply 24 = .ok (.ireturn, 1) := by decide +kernel
theorem d_L_apply_25 : decode b_L_apply 25 = .ok (.iconst 0, 1) := by decide +kernel
theorem d_L_apply_26 : decode b_L_apply 26 = .ok (.ireturn, 1) := by decide +kernel
theorem d_L_together_0 : decode b_L_together 0 = .ok (.aload_n 3, 1) := by decide +kernel
theorem d_L_together_1 : decode b_L_together 1 = .ok (.iconst 0, 1) := by decide +kernel
theorem d_L_together_2 : decode b_L_together 2 = .ok (.aload_n 0, 1) := by decide +kernel
theorem d_L_together_3 : decode b_L_together 3 = .ok (.iload_n 1, 1) := by decide +kernel
theorem d_L_together_4 : decode b_L_together 4 = .ok (.iload_n 2, 1) := by decide +kernel
theorem d_L_together_5 : decode b_L_together 5 = .ok (.invokevirtual 37, 3) := by decide +kernel
theorem d_L_together_8 : decode b_L_together 8 = .ok (.ifCond .eq 7, 3) := by decide +kernel
theorem d_L_together_11 : decode b_L_together 11 = .ok (.lconst 1, 1) := by decide +kernel
theorem d_L_together_12 : decode b_L_together 12 = .ok (.goto 4, 3) := by decide +kernel
theorem d_L_together_15 : decode b_L_together 15 = .ok (.lconst 0, 1) := by decide +kernel
theorem d_L_together_16 : decode b_L_together 16 = .ok (.lastore, 1) := by decide +kernel
theorem d_L_together_17 : decode b_L_together 17 = .ok (.goto 7, 3) := by decide +kernel
theorem d_L_together_20 : decode b_L_together 20 = .ok (.astore 4, 2) := by decide +kernel
theorem d_L_together_22 : decode b_L_together 22 = .ok (.iconst 1, 1) := by decide +kernel
theorem d_L_together_23 : decode b_L_together 23 = .ok (.ireturn, 1) := by decide +kernel
theorem d_L_together_24 : decode b_L_together 24 = .ok (.iconst 0, 1) := by decide +kernel
theorem d_L_together_25 : decode b_L_together 25 = .ok (.ireturn, 1) := by decide +kernel
theorem d_L_level_0 : decode b_L_level 0 = .ok (.aload_n 3, 1) := by decide +kernel
theorem d_L_level_1 : decode b_L_level 1 = .ok (.iconst 0, 1) := by decide +kernel
theorem d_L_level_2 : decode b_L_level 2 = .ok (.aload_n 0, 1) := by decide +kernel
theorem d_L_level_3 : decode b_L_level 3 = .ok (.iload_n 1, 1) := by decide +kernel
theorem d_L_level_4 : decode b_L_level 4 = .ok (.iload_n 2, 1) := by decide +kernel
theorem d_L_level_5 : decode b_L_level 5 = .ok (.invokevirtual 41, 3) := by decide +kernel
theorem d_L_level_8 : decode b_L_level 8 = .ok (.i2l, 1) := by decide +kernel
theorem d_L_level_9 : decode b_L_level 9 = .ok (.lastore, 1) := by decide +kernel
theorem d_L_level_10 : decode b_L_level 10 = .ok (.goto 7, 3) := by decide +kernel
theorem d_L_level_13 : decode b_L_level 13 = .ok (.astore 4, 2) := by decide +kernel
theorem d_L_level_15 : decode b_L_level 15 = .ok (.iconst 1, 1) := by decide +kernel
theorem d_L_level_16 : decode b_L_level 16 = .ok (.ireturn, 1) := by decide +kernel
theorem d_L_level_17 : decode b_L_level 17 = .ok (.iconst 0, 1) := by decide +kernel
theorem d_L_level_18 : decode b_L_level 18 = .ok (.ireturn, 1) := by decide +kernel
theorem d_L_landmark_0 : decode b_L_landmark 0 = .ok (.aload_n 2, 1) := by decide +kernel
theorem d_L_landmark_1 : decode b_L_landmark 1 = .ok (.iconst 0, 1) := by decide +kernel
theorem d_L_landmark_2 : decode b_L_landmark 2 = .ok (.aload_n 0, 1) := by decide +kernel
theorem d_L_landmark_3 : decode b_L_landmark 3 = .ok (.iload_n 1, 1) := by decide +kernel
theorem d_L_landmark_4 : decode b_L_landmark 4 = .ok (.invokevirtual 45, 3) := by decide +kernel
theorem d_L_landmark_7 : decode b_L_landmark 7 = .ok (.ifCond .eq 7, 3) := by decide +kernel
theorem d_L_landmark_10 : decode b_L_landmark 10 = .ok (.lconst 1, 1) := by decide +kernel
theorem d_L_landmark_11 : decode b_L_landmark 11 = .ok (.goto 4, 3) := by decide +kernel
theorem d_L_landmark_14 : decode b_L_landmark 14 = .ok (.lconst 0, 1) := by decide +kernel
theorem d_L_landmark_15 : decode b_L_landmark 15 = .ok (.lastore, 1) := by decide +kernel
theorem d_L_landmark_16 : decode b_L_landmark 16 = .ok (.goto 6, 3) := by decide +kernel
theorem d_L_landmark_19 : decode b_L_landmark 19 = .ok (.astore_n 3, 1) := by decide +kernel
theorem d_L_landmark_20 : decode b_L_landmark 20 = .ok (.iconst 1, 1) := by decide +kernel
theorem d_L_landmark_21 : decode b_L_landmark 21 = .ok (.ireturn, 1) := by decide +kernel
theorem d_L_landmark_22 : decode b_L_landmark 22 = .ok (.iconst 0, 1) := by decide +kernel
theorem d_L_landmark_23 : decode b_L_landmark 23 = .ok (.ireturn, 1) := by decide +kernel
theorem d_L_draft_0 : decode b_L_draft 0 = .ok (.aload_n 2, 1) := by decide +kernel
theorem d_L_draft_1 : decode b_L_draft 1 = .ok (.iconst 0, 1) := by decide +kernel
theorem d_L_draft_2 : decode b_L_draft 2 = .ok (.aload_n 0, 1) := by decide +kernel
theorem d_L_draft_3 : decode b_L_draft 3 = .ok (.iload_n 1, 1) := by decide +kernel
theorem d_L_draft_4 : decode b_L_draft 4 = .ok (.invokevirtual 48, 3) := by decide +kernel
theorem d_L_draft_7 : decode b_L_draft 7 = .ok (.i2l, 1) := by decide +kernel
theorem d_L_draft_8 : decode b_L_draft 8 = .ok (.lastore, 1) := by decide +kernel
theorem d_L_draft_9 : decode b_L_draft 9 = .ok (.goto 9, 3) := by decide +kernel
theorem d_L_draft_12 : decode b_L_draft 12 = .ok (.astore_n 3, 1) := by decide +kernel
theorem d_L_draft_13 : decode b_L_draft 13 = .ok (.iconst 1, 1) := by decide +kernel
theorem d_L_draft_14 : decode b_L_draft 14 = .ok (.ireturn, 1) := by decide +kernel
theorem d_L_draft_15 : decode b_L_draft 15 = .ok (.astore_n 3, 1) := by decide +kernel
theorem d_L_draft_16 : decode b_L_draft 16 = .ok (.iconst 2, 1) := by decide +kernel
theorem d_L_draft_17 : decode b_L_draft 17 = .ok (.ireturn, 1) := by decide +kernel
theorem d_L_draft_18 : decode b_L_draft 18 = .ok (.iconst 0, 1) := by decide +kernel
theorem d_L_draft_19 : decode b_L_draft 19 = .ok (.ireturn, 1) := by decide +kernel
theorem d_law_0 : decode code 0 = .ok (.new 8, 3) := by decide +kernel
theorem d_law_3 : decode code 3 = .ok (.dup, 1) := by decide +kernel
theorem d_law_4 : decode code 4 = .ok (.invokespecial 51, 3) := by decide +kernel
theorem d_law_7 : decode code 7 = .ok (.astore_n 1, 1) := by decide +kernel
theorem d_law_8 : decode code 8 = .ok (.new 52, 3) := by decide +kernel
theorem d_law_11 : decode code 11 = .ok (.dup, 1) := by decide +kernel
theorem d_law_12 : decode code 12 = .ok (.invokespecial 54, 3) := by decide +kernel
theorem d_law_15 : decode code 15 = .ok (.astore_n 2, 1) := by decide +kernel
theorem d_law_16 : decode code 16 = .ok (.iconst 1, 1) := by decide +kernel
theorem d_law_17 : decode code 17 = .ok (.newarray .long, 2) := by decide +kernel
theorem d_law_19 : decode code 19 = .ok (.astore_n 3, 1) := by decide +kernel
theorem d_law_20 : decode code 20 = .ok (.iconst 0, 1) := by decide +kernel
theorem d_law_21 : decode code 21 = .ok (.istore 4, 2) := by decide +kernel
theorem d_law_23 : decode code 23 = .ok (.iload 4, 2) := by decide +kernel
theorem d_law_25 : decode code 25 = .ok (.aload_n 0, 1) := by decide +kernel
theorem d_law_26 : decode code 26 = .ok (.arraylength, 1) := by decide +kernel
theorem d_law_27 : decode code 27 = .ok (.iconst 4, 1) := by decide +kernel
theorem d_law_28 : decode code 28 = .ok (.isub, 1) := by decide +kernel
theorem d_law_29 : decode code 29 = .ok (.if_icmp .gt 987, 3) := by decide +kernel
theorem d_law_32 : decode code 32 = .ok (.aload_n 0, 1) := by decide +kernel
theorem d_law_33 : decode code 33 = .ok (.iload 4, 2) := by decide +kernel
theorem d_law_35 : decode code 35 = .ok (.iaload, 1) := by decide +kernel
theorem d_law_36 : decode code 36 = .ok (.bipush 31, 2) := by decide +kernel
theorem d_law_38 : decode code 38 = .ok (.iand, 1) := by decide +kernel
theorem d_law_39 : decode code 39 = .ok (.tableswitch 971 0 20 #[97, 197, 253, 313, 324, 387, 450, 513, 526, 539, 564, 577, 652, 736, 777, 790, 815, 878, 934, 945, 958], 97) := by decide +kernel
theorem d_law_136 : decode code 136 = .ok (.aload_n 1, 1) := by decide +kernel
theorem d_law_137 : decode code 137 = .ok (.aload_n 0, 1) := by decide +kernel
theorem d_law_138 : decode code 138 = .ok (.iload 4, 2) := by decide +kernel
theorem d_law_140 : decode code 140 = .ok (.iconst 1, 1) := by decide +kernel
theorem d_law_141 : decode code 141 = .ok (.iadd, 1) := by decide +kernel
theorem d_law_142 : decode code 142 = .ok (.iaload, 1) := by decide +kernel
theorem d_law_143 : decode code 143 = .ok (.ifCond .eq 7, 3) := by decide +kernel
theorem d_law_146 : decode code 146 = .ok (.iconst 1, 1) := by decide +kernel
theorem d_law_147 : decode code 147 = .ok (.goto 4, 3) := by decide +kernel
theorem d_law_150 : decode code 150 = .ok (.iconst 0, 1) := by decide +kernel
theorem d_law_151 : decode code 151 = .ok (.aload_n 0, 1) := by decide +kernel
theorem d_law_152 : decode code 152 = .ok (.iload 4, 2) := by decide +kernel
theorem d_law_154 : decode code 154 = .ok (.iconst 2, 1) := by decide +kernel
theorem d_law_155 : decode code 155 = .ok (.iadd, 1) := by decide +kernel
theorem d_law_156 : decode code 156 = .ok (.iaload, 1) := by decide +kernel
theorem d_law_157 : decode code 157 = .ok (.ifCond .eq 7, 3) := by decide +kernel
theorem d_law_160 : decode code 160 = .ok (.iconst 1, 1) := by decide +kernel
theorem d_law_161 : decode code 161 = .ok (.goto 4, 3) := by decide +kernel
theorem d_law_164 : decode code 164 = .ok (.iconst 0, 1) := by decide +kernel
theorem d_law_165 : decode code 165 = .ok (.aload_n 3, 1) := by decide +kernel
theorem d_law_166 : decode code 166 = .ok (.invokestatic 55, 3) := by decide +kernel
theorem d_law_169 : decode code 169 = .ok (.istore 5, 2) := by decide +kernel
theorem d_law_171 : decode code 171 = .ok (.aload_n 2, 1) := by decide +kernel
theorem d_law_172 : decode code 172 = .ok (.aload_n 0, 1) := by decide +kernel
theorem d_law_173 : decode code 173 = .ok (.iload 4, 2) := by decide +kernel
theorem d_law_175 : decode code 175 = .ok (.iconst 1, 1) := by decide +kernel
theorem d_law_176 : decode code 176 = .ok (.iadd, 1) := by decide +kernel
theorem d_law_177 : decode code 177 = .ok (.iaload, 1) := by decide +kernel
theorem d_law_178 : decode code 178 = .ok (.ifCond .eq 7, 3) := by decide +kernel
theorem d_law_181 : decode code 181 = .ok (.iconst 1, 1) := by decide +kernel
theorem d_law_182 : decode code 182 = .ok (.goto 4, 3) := by decide +kernel
theorem d_law_185 : decode code 185 = .ok (.iconst 0, 1) := by decide +kernel
theorem d_law_186 : decode code 186 = .ok (.aload_n 0, 1) := by decide +kernel
theorem d_law_187 : decode code 187 = .ok (.iload 4, 2) := by decide +kernel
theorem d_law_189 : decode code 189 = .ok (.iconst 2, 1) := by decide +kernel
theorem d_law_190 : decode code 190 = .ok (.iadd, 1) := by decide +kernel
theorem d_law_191 : decode code 191 = .ok (.iaload, 1) := by decide +kernel
theorem d_law_192 : decode code 192 = .ok (.ifCond .eq 7, 3) := by decide +kernel
theorem d_law_195 : decode code 195 = .ok (.iconst 1, 1) := by decide +kernel
theorem d_law_196 : decode code 196 = .ok (.goto 4, 3) := by decide +kernel
theorem d_law_199 : decode code 199 = .ok (.iconst 0, 1) := by decide +kernel
theorem d_law_200 : decode code 200 = .ok (.invokevirtual 60, 3) := by decide +kernel
theorem d_law_203 : decode code 203 = .ok (.istore 6, 2) := by decide +kernel
theorem d_law_205 : decode code 205 = .ok (.aload_n 2, 1) := by decide +kernel
theorem d_law_206 : decode code 206 = .ok (.invokevirtual 61, 3) := by decide +kernel
theorem d_law_209 : decode code 209 = .ok (.iload 5, 2) := by decide +kernel
theorem d_law_211 : decode code 211 = .ok (.if_icmp .eq 5, 3) := by decide +kernel
theorem d_law_214 : decode code 214 = .ok (.iconst 0, 1) := by decide +kernel
theorem d_law_215 : decode code 215 = .ok (.ireturn, 1) := by decide +kernel
theorem d_law_216 : decode code 216 = .ok (.iload 5, 2) := by decide +kernel
theorem d_law_218 : decode code 218 = .ok (.ifCond .ne 15, 3) := by decide +kernel
theorem d_law_221 : decode code 221 = .ok (.aload_n 3, 1) := by decide +kernel
theorem d_law_222 : decode code 222 = .ok (.iconst 0, 1) := by decide +kernel
theorem d_law_223 : decode code 223 = .ok (.laload, 1) := by decide +kernel
theorem d_law_224 : decode code 224 = .ok (.iload 6, 2) := by decide +kernel
theorem d_law_226 : decode code 226 = .ok (.i2l, 1) := by decide +kernel
theorem d_law_227 : decode code 227 = .ok (.lcmp, 1) := by decide +kernel
theorem d_law_228 : decode code 228 = .ok (.ifCond .eq 5, 3) := by decide +kernel
theorem d_law_231 : decode code 231 = .ok (.iconst 0, 1) := by decide +kernel
theorem d_law_232 : decode code 232 = .ok (.ireturn, 1) := by decide +kernel
theorem d_law_233 : decode code 233 = .ok (.goto 777, 3) := by decide +kernel
theorem d_law_236 : decode code 236 = .ok (.aload_n 1, 1) := by decide +kernel
theorem d_law_237 : decode code 237 = .ok (.aload_n 0, 1) := by decide +kernel
theorem d_law_238 : decode code 238 = .ok (.iload 4, 2) := by decide +kernel
theorem d_law_240 : decode code 240 = .ok (.iconst 1, 1) := by decide +kernel
theorem d_law_241 : decode code 241 = .ok (.iadd, 1) := by decide +kernel
theorem d_law_242 : decode code 242 = .ok (.iaload, 1) := by decide +kernel
theorem d_law_243 : decode code 243 = .ok (.aload_n 3, 1) := by decide +kernel
theorem d_law_244 : decode code 244 = .ok (.invokestatic 65, 3) := by decide +kernel
theorem d_law_247 : decode code 247 = .ok (.istore 5, 2) := by decide +kernel
theorem d_law_249 : decode code 249 = .ok (.aload_n 2, 1) := by decide +kernel
theorem d_law_250 : decode code 250 = .ok (.aload_n 0, 1) := by decide +kernel
theorem d_law_251 : decode code 251 = .ok (.iload 4, 2) := by decide +kernel
theorem d_law_253 : decode code 253 = .ok (.iconst 1, 1) := by decide +kernel
theorem d_law_254 : decode code 254 = .ok (.iadd, 1) := by decide +kernel
theorem d_law_255 : decode code 255 = .ok (.iaload, 1) := by decide +kernel
theorem d_law_256 : decode code 256 = .ok (.invokevirtual 68, 3) := by decide +kernel
theorem d_law_259 : decode code 259 = .ok (.istore 6, 2) := by decide +kernel
theorem d_law_261 : decode code 261 = .ok (.aload_n 2, 1) := by decide +kernel
theorem d_law_262 : decode code 262 = .ok (.invokevirtual 61, 3) := by decide +kernel
theorem d_law_265 : decode code 265 = .ok (.iload 5, 2) := by decide +kernel
theorem d_law_267 : decode code 267 = .ok (.if_icmp .eq 5, 3) := by decide +kernel
theorem d_law_270 : decode code 270 = .ok (.iconst 0, 1) := by decide +kernel
theorem d_law_271 : decode code 271 = .ok (.ireturn, 1) := by decide +kernel
theorem d_law_272 : decode code 272 = .ok (.iload 5, 2) := by decide +kernel
theorem d_law_274 : decode code 274 = .ok (.ifCond .ne 15, 3) := by decide +kernel
theorem d_law_277 : decode code 277 = .ok (.aload_n 3, 1) := by decide +kernel
theorem d_law_278 : decode code 278 = .ok (.iconst 0, 1) := by decide +kernel
theorem d_law_279 : decode code 279 = .ok (.laload, 1) := by decide +kernel
theorem d_law_280 : decode code 280 = .ok (.iload 6, 2) := by decide +kernel
theorem d_law_282 : decode code 282 = .ok (.i2l, 1) := by decide +kernel
theorem d_law_283 : decode code 283 = .ok (.lcmp, 1) := by decide +kernel
theorem d_law_284 : decode code 284 = .ok (.ifCond .eq 5, 3) := by decide +kernel
theorem d_law_287 : decode code 287 = .ok (.iconst 0, 1) := by decide +kernel
theorem d_law_288 : decode code 288 = .ok (.ireturn, 1) := by decide +kernel
theorem d_law_289 : decode code 289 = .ok (.goto 721, 3) := by decide +kernel
theorem d_law_292 : decode code 292 = .ok (.aload_n 1, 1) := by decide +kernel
theorem d_law_293 : decode code 293 = .ok (.aload_n 0, 1) := by decide +kernel
theorem d_law_294 : decode code 294 = .ok (.iload 4, 2) := by decide +kernel
theorem d_law_296 : decode code 296 = .ok (.iconst 1, 1) := by decide +kernel
theorem d_law_297 : decode code 297 = .ok (.iadd, 1) := by decide +kernel
theorem d_law_298 : decode code 298 = .ok (.iaload, 1) := by decide +kernel
theorem d_law_299 : decode code 299 = .ok (.aload_n 0, 1) := by decide +kernel
theorem d_law_300 : decode code 300 = .ok (.iload 4, 2) := by decide +kernel
theorem d_law_302 : decode code 302 = .ok (.iconst 2, 1) := by decide +kernel
theorem d_law_303 : decode code 303 = .ok (.iadd, 1) := by decide +kernel
theorem d_law_304 : decode code 304 = .ok (.iaload, 1) := by decide +kernel
theorem d_law_305 : decode code 305 = .ok (.aload_n 0, 1) := by decide +kernel
theorem d_law_306 : decode code 306 = .ok (.iload 4, 2) := by decide +kernel
theorem d_law_308 : decode code 308 = .ok (.iconst 3, 1) := by decide +kernel
theorem d_law_309 : decode code 309 = .ok (.iadd, 1) := by decide +kernel
theorem d_law_310 : decode code 310 = .ok (.iaload, 1) := by decide +kernel
theorem d_law_311 : decode code 311 = .ok (.invokestatic 69, 3) := by decide +kernel
theorem d_law_314 : decode code 314 = .ok (.istore 5, 2) := by decide +kernel
theorem d_law_316 : decode code 316 = .ok (.aload_n 2, 1) := by decide +kernel
theorem d_law_317 : decode code 317 = .ok (.aload_n 0, 1) := by decide +kernel
theorem d_law_318 : decode code 318 = .ok (.iload 4, 2) := by decide +kernel
theorem d_law_320 : decode code 320 = .ok (.iconst 1, 1) := by decide +kernel
theorem d_law_321 : decode code 321 = .ok (.iadd, 1) := by decide +kernel
theorem d_law_322 : decode code 322 = .ok (.iaload, 1) := by decide +kernel
theorem d_law_323 : decode code 323 = .ok (.aload_n 0, 1) := by decide +kernel
theorem d_law_324 : decode code 324 = .ok (.iload 4, 2) := by decide +kernel
theorem d_law_326 : decode code 326 = .ok (.iconst 2, 1) := by decide +kernel
theorem d_law_327 : decode code 327 = .ok (.iadd, 1) := by decide +kernel
theorem d_law_328 : decode code 328 = .ok (.iaload, 1) := by decide +kernel
theorem d_law_329 : decode code 329 = .ok (.aload_n 0, 1) := by decide +kernel
theorem d_law_330 : decode code 330 = .ok (.iload 4, 2) := by decide +kernel
theorem d_law_332 : decode code 332 = .ok (.iconst 3, 1) := by decide +kernel
theorem d_law_333 : decode code 333 = .ok (.iadd, 1) := by decide +kernel
theorem d_law_334 : decode code 334 = .ok (.iaload, 1) := by decide +kernel
theorem d_law_335 : decode code 335 = .ok (.invokevirtual 72, 3) := by decide +kernel
theorem d_law_338 : decode code 338 = .ok (.aload_n 2, 1) := by decide +kernel
theorem d_law_339 : decode code 339 = .ok (.invokevirtual 61, 3) := by decide +kernel
theorem d_law_342 : decode code 342 = .ok (.iload 5, 2) := by decide +kernel
theorem d_law_344 : decode code 344 = .ok (.if_icmp .eq 5, 3) := by decide +kernel
theorem d_law_347 : decode code 347 = .ok (.iconst 0, 1) := by decide +kernel
theorem d_law_348 : decode code 348 = .ok (.ireturn, 1) := by decide +kernel
theorem d_law_349 : decode code 349 = .ok (.goto 661, 3) := by decide +kernel
theorem d_law_352 : decode code 352 = .ok (.aload_n 1, 1) := by decide +kernel
theorem d_law_353 : decode code 353 = .ok (.invokevirtual 73, 3) := by decide +kernel
theorem d_law_356 : decode code 356 = .ok (.aload_n 2, 1) := by decide +kernel
theorem d_law_357 : decode code 357 = .ok (.invokevirtual 76, 3) := by decide +kernel
theorem d_law_360 : decode code 360 = .ok (.goto 650, 3) := by decide +kernel
theorem d_law_363 : decode code 363 = .ok (.aload_n 1, 1) := by decide +kernel
theorem d_law_364 : decode code 364 = .ok (.aload_n 0, 1) := by decide +kernel
theorem d_law_365 : decode code 365 = .ok (.iload 4, 2) := by decide +kernel
theorem d_law_367 : decode code 367 = .ok (.iconst 1, 1) := by decide +kernel
theorem d_law_368 : decode code 368 = .ok (.iadd, 1) := by decide +kernel
theorem d_law_369 : decode code 369 = .ok (.iaload, 1) := by decide +kernel
theorem d_law_370 : decode code 370 = .ok (.aload_n 3, 1) := by decide +kernel
theorem d_law_371 : decode code 371 = .ok (.invokestatic 77, 3) := by decide +kernel
theorem d_law_374 : decode code 374 = .ok (.istore 5, 2) := by decide +kernel
theorem d_law_376 : decode code 376 = .ok (.aload_n 2, 1) := by decide +kernel
theorem d_law_377 : decode code 377 = .ok (.aload_n 0, 1) := by decide +kernel
theorem d_law_378 : decode code 378 = .ok (.iload 4, 2) := by decide +kernel
theorem d_law_380 : decode code 380 = .ok (.iconst 1, 1) := by decide +kernel
theorem d_law_381 : decode code 381 = .ok (.iadd, 1) := by decide +kernel
theorem d_law_382 : decode code 382 = .ok (.iaload, 1) := by decide +kernel
theorem d_law_383 : decode code 383 = .ok (.invokevirtual 79, 3) := by decide +kernel
theorem d_law_386 : decode code 386 = .ok (.istore 6, 2) := by decide +kernel
theorem d_law_388 : decode code 388 = .ok (.aload_n 2, 1) := by decide +kernel
theorem d_law_389 : decode code 389 = .ok (.invokevirtual 61, 3) := by decide +kernel
theorem d_law_392 : decode code 392 = .ok (.iload 5, 2) := by decide +kernel
theorem d_law_394 : decode code 394 = .ok (.if_icmp .eq 5, 3) := by decide +kernel
theorem d_law_397 : decode code 397 = .ok (.iconst 0, 1) := by decide +kernel
theorem d_law_398 : decode code 398 = .ok (.ireturn, 1) := by decide +kernel
theorem d_law_399 : decode code 399 = .ok (.iload 5, 2) := by decide +kernel
theorem d_law_401 : decode code 401 = .ok (.ifCond .ne 22, 3) := by decide +kernel
theorem d_law_404 : decode code 404 = .ok (.aload_n 3, 1) := by decide +kernel
theorem d_law_405 : decode code 405 = .ok (.iconst 0, 1) := by decide +kernel
theorem d_law_406 : decode code 406 = .ok (.laload, 1) := by decide +kernel
theorem d_law_407 : decode code 407 = .ok (.iload 6, 2) := by decide +kernel
theorem d_law_409 : decode code 409 = .ok (.ifCond .eq 7, 3) := by decide +kernel
theorem d_law_412 : decode code 412 = .ok (.lconst 1, 1) := by decide +kernel
theorem d_law_413 : decode code 413 = .ok (.goto 4, 3) := by decide +kernel
theorem d_law_416 : decode code 416 = .ok (.lconst 0, 1) := by decide +kernel
theorem d_law_417 : decode code 417 = .ok (.lcmp, 1) := by decide +kernel
theorem d_law_418 : decode code 418 = .ok (.ifCond .eq 5, 3) := by decide +kernel
theorem d_law_421 : decode code 421 = .ok (.iconst 0, 1) := by decide +kernel
theorem d_law_422 : decode code 422 = .ok (.ireturn, 1) := by decide +kernel
theorem d_law_423 : decode code 423 = .ok (.goto 587, 3) := by decide +kernel
theorem d_law_426 : decode code 426 = .ok (.aload_n 1, 1) := by decide +kernel
theorem d_law_427 : decode code 427 = .ok (.aload_n 0, 1) := by decide +kernel
theorem d_law_428 : decode code 428 = .ok (.iload 4, 2) := by decide +kernel
theorem d_law_430 : decode code 430 = .ok (.iconst 1, 1) := by decide +kernel
theorem d_law_431 : decode code 431 = .ok (.iadd, 1) := by decide +kernel
theorem d_law_432 : decode code 432 = .ok (.iaload, 1) := by decide +kernel
theorem d_law_433 : decode code 433 = .ok (.aload_n 3, 1) := by decide +kernel
theorem d_law_434 : decode code 434 = .ok (.invokestatic 80, 3) := by decide +kernel
theorem d_law_437 : decode code 437 = .ok (.istore 5, 2) := by decide +kernel
theorem d_law_439 : decode code 439 = .ok (.aload_n 2, 1) := by decide +kernel
theorem d_law_440 : decode code 440 = .ok (.aload_n 0, 1) := by decide +kernel
theorem d_law_441 : decode code 441 = .ok (.iload 4, 2) := by decide +kernel
theorem d_law_443 : decode code 443 = .ok (.iconst 1, 1) := by decide +kernel
theorem d_law_444 : decode code 444 = .ok (.iadd, 1) := by decide +kernel
theorem d_law_445 : decode code 445 = .ok (.iaload, 1) := by decide +kernel
theorem d_law_446 : decode code 446 = .ok (.invokevirtual 82, 3) := by decide +kernel
theorem d_law_449 : decode code 449 = .ok (.istore 6, 2) := by decide +kernel
theorem d_law_451 : decode code 451 = .ok (.aload_n 2, 1) := by decide +kernel
theorem d_law_452 : decode code 452 = .ok (.invokevirtual 61, 3) := by decide +kernel
theorem d_law_455 : decode code 455 = .ok (.iload 5, 2) := by decide +kernel
theorem d_law_457 : decode code 457 = .ok (.if_icmp .eq 5, 3) := by decide +kernel
theorem d_law_460 : decode code 460 = .ok (.iconst 0, 1) := by decide +kernel
theorem d_law_461 : decode code 461 = .ok (.ireturn, 1) := by decide +kernel
theorem d_law_462 : decode code 462 = .ok (.iload 5, 2) := by decide +kernel
theorem d_law_464 : decode code 464 = .ok (.ifCond .ne 22, 3) := by decide +kernel
theorem d_law_467 : decode code 467 = .ok (.aload_n 3, 1) := by decide +kernel
theorem d_law_468 : decode code 468 = .ok (.iconst 0, 1) := by decide +kernel
theorem d_law_469 : decode code 469 = .ok (.laload, 1) := by decide +kernel
theorem d_law_470 : decode code 470 = .ok (.iload 6, 2) := by decide +kernel
theorem d_law_472 : decode code 472 = .ok (.ifCond .eq 7, 3) := by decide +kernel
theorem d_law_475 : decode code 475 = .ok (.lconst 1, 1) := by decide +kernel
theorem d_law_476 : decode code 476 = .ok (.goto 4, 3) := by decide +kernel
theorem d_law_479 : decode code 479 = .ok (.lconst 0, 1) := by decide +kernel
theorem d_law_480 : decode code 480 = .ok (.lcmp, 1) := by decide +kernel
theorem d_law_481 : decode code 481 = .ok (.ifCond .eq 5, 3) := by decide +kernel
theorem d_law_484 : decode code 484 = .ok (.iconst 0, 1) := by decide +kernel
theorem d_law_485 : decode code 485 = .ok (.ireturn, 1) := by decide +kernel
theorem d_law_486 : decode code 486 = .ok (.goto 524, 3) := by decide +kernel
theorem d_law_489 : decode code 489 = .ok (.aload_n 1, 1) := by decide +kernel
theorem d_law_490 : decode code 490 = .ok (.aload_n 0, 1) := by decide +kernel
theorem d_law_491 : decode code 491 = .ok (.iload 4, 2) := by decide +kernel
theorem d_law_493 : decode code 493 = .ok (.iconst 1, 1) := by decide +kernel
theorem d_law_494 : decode code 494 = .ok (.iadd, 1) := by decide +kernel
theorem d_law_495 : decode code 495 = .ok (.iaload, 1) := by decide +kernel
theorem d_law_496 : decode code 496 = .ok (.aload_n 3, 1) := by decide +kernel
theorem d_law_497 : decode code 497 = .ok (.invokestatic 83, 3) := by decide +kernel
theorem d_law_500 : decode code 500 = .ok (.istore 5, 2) := by decide +kernel
theorem d_law_502 : decode code 502 = .ok (.aload_n 2, 1) := by decide +kernel
theorem d_law_503 : decode code 503 = .ok (.aload_n 0, 1) := by decide +kernel
theorem d_law_504 : decode code 504 = .ok (.iload 4, 2) := by decide +kernel
theorem d_law_506 : decode code 506 = .ok (.iconst 1, 1) := by decide +kernel
theorem d_law_507 : decode code 507 = .ok (.iadd, 1) := by decide +kernel
theorem d_law_508 : decode code 508 = .ok (.iaload, 1) := by decide +kernel
theorem d_law_509 : decode code 509 = .ok (.invokevirtual 85, 3) := by decide +kernel
theorem d_law_512 : decode code 512 = .ok (.istore 6, 2) := by decide +kernel
theorem d_law_514 : decode code 514 = .ok (.aload_n 2, 1) := by decide +kernel
theorem d_law_515 : decode code 515 = .ok (.invokevirtual 61, 3) := by decide +kernel
theorem d_law_518 : decode code 518 = .ok (.iload 5, 2) := by decide +kernel
theorem d_law_520 : decode code 520 = .ok (.if_icmp .eq 5, 3) := by decide +kernel
theorem d_law_523 : decode code 523 = .ok (.iconst 0, 1) := by decide +kernel
theorem d_law_524 : decode code 524 = .ok (.ireturn, 1) := by decide +kernel
theorem d_law_525 : decode code 525 = .ok (.iload 5, 2) := by decide +kernel
theorem d_law_527 : decode code 527 = .ok (.ifCond .ne 22, 3) := by decide +kernel
theorem d_law_530 : decode code 530 = .ok (.aload_n 3, 1) := by decide +kernel
theorem d_law_531 : decode code 531 = .ok (.iconst 0, 1) := by decide +kernel
theorem d_law_532 : decode code 532 = .ok (.laload, 1) := by decide +kernel
theorem d_law_533 : decode code 533 = .ok (.iload 6, 2) := by decide +kernel
theorem d_law_535 : decode code 535 = .ok (.ifCond .eq 7, 3) := by decide +kernel
theorem d_law_538 : decode code 538 = .ok (.lconst 1, 1) := by decide +kernel
theorem d_law_539 : decode code 539 = .ok (.goto 4, 3) := by decide +kernel
theorem d_law_542 : decode code 542 = .ok (.lconst 0, 1) := by decide +kernel
theorem d_law_543 : decode code 543 = .ok (.lcmp, 1) := by decide +kernel
theorem d_law_544 : decode code 544 = .ok (.ifCond .eq 5, 3) := by decide +kernel
theorem d_law_547 : decode code 547 = .ok (.iconst 0, 1) := by decide +kernel
theorem d_law_548 : decode code 548 = .ok (.ireturn, 1) := by decide +kernel
theorem d_law_549 : decode code 549 = .ok (.goto 461, 3) := by decide +kernel
theorem d_law_552 : decode code 552 = .ok (.aload_n 1, 1) := by decide +kernel
theorem d_law_553 : decode code 553 = .ok (.invokevirtual 86, 3) := by decide +kernel
theorem d_law_556 : decode code 556 = .ok (.aload_n 2, 1) := by decide +kernel
theorem d_law_557 : decode code 557 = .ok (.invokevirtual 89, 3) := by decide +kernel
theorem d_law_560 : decode code 560 = .ok (.if_icmp .eq 450, 3) := by decide +kernel
theorem d_law_563 : decode code 563 = .ok (.iconst 0, 1) := by decide +kernel
theorem d_law_564 : decode code 564 = .ok (.ireturn, 1) := by decide +kernel
theorem d_law_565 : decode code 565 = .ok (.aload_n 1, 1) := by decide +kernel
theorem d_law_566 : decode code 566 = .ok (.invokevirtual 90, 3) := by decide +kernel
theorem d_law_569 : decode code 569 = .ok (.aload_n 2, 1) := by decide +kernel
theorem d_law_570 : decode code 570 = .ok (.invokevirtual 93, 3) := by decide +kernel
theorem d_law_573 : decode code 573 = .ok (.if_icmp .eq 437, 3) := by decide +kernel
theorem d_law_576 : decode code 576 = .ok (.iconst 0, 1) := by decide +kernel
theorem d_law_577 : decode code 577 = .ok (.ireturn, 1) := by decide +kernel
theorem d_law_578 : decode code 578 = .ok (.aload_n 1, 1) := by decide +kernel
theorem d_law_579 : decode code 579 = .ok (.aload_n 0, 1) := by decide +kernel
theorem d_law_580 : decode code 580 = .ok (.iload 4, 2) := by decide +kernel
theorem d_law_582 : decode code 582 = .ok (.iconst 1, 1) := by decide +kernel
theorem d_law_583 : decode code 583 = .ok (.iadd, 1) := by decide +kernel
theorem d_law_584 : decode code 584 = .ok (.iaload, 1) := by decide +kernel
theorem d_law_585 : decode code 585 = .ok (.invokevirtual 94, 3) := by decide +kernel
theorem d_law_588 : decode code 588 = .ok (.aload_n 2, 1) := by decide +kernel
theorem d_law_589 : decode code 589 = .ok (.aload_n 0, 1) := by decide +kernel
theorem d_law_590 : decode code 590 = .ok (.iload 4, 2) := by decide +kernel
theorem d_law_592 : decode code 592 = .ok (.iconst 1, 1) := by decide +kernel
theorem d_law_593 : decode code 593 = .ok (.iadd, 1) := by decide +kernel
theorem d_law_594 : decode code 594 = .ok (.iaload, 1) := by decide +kernel
theorem d_law_595 : decode code 595 = .ok (.invokevirtual 97, 3) := by decide +kernel
theorem d_law_598 : decode code 598 = .ok (.if_icmp .eq 412, 3) := by decide +kernel
theorem d_law_601 : decode code 601 = .ok (.iconst 0, 1) := by decide +kernel
theorem d_law_602 : decode code 602 = .ok (.ireturn, 1) := by decide +kernel
theorem d_law_603 : decode code 603 = .ok (.aload_n 1, 1) := by decide +kernel
theorem d_law_604 : decode code 604 = .ok (.invokevirtual 98, 3) := by decide +kernel
theorem d_law_607 : decode code 607 = .ok (.aload_n 2, 1) := by decide +kernel
theorem d_law_608 : decode code 608 = .ok (.invokevirtual 101, 3) := by decide +kernel
theorem d_law_611 : decode code 611 = .ok (.if_icmp .eq 399, 3) := by decide +kernel
theorem d_law_614 : decode code 614 = .ok (.iconst 0, 1) := by decide +kernel
theorem d_law_615 : decode code 615 = .ok (.ireturn, 1) := by decide +kernel
theorem d_law_616 : decode code 616 = .ok (.aload_n 1, 1) := by decide +kernel
theorem d_law_617 : decode code 617 = .ok (.aload_n 0, 1) := by decide +kernel
theorem d_law_618 : decode code 618 = .ok (.iload 4, 2) := by decide +kernel
theorem d_law_620 : decode code 620 = .ok (.iconst 1, 1) := by decide +kernel
theorem d_law_621 : decode code 621 = .ok (.iadd, 1) := by decide +kernel
theorem d_law_622 : decode code 622 = .ok (.iaload, 1) := by decide +kernel
theorem d_law_623 : decode code 623 = .ok (.aload_n 0, 1) := by decide +kernel
theorem d_law_624 : decode code 624 = .ok (.iload 4, 2) := by decide +kernel
theorem d_law_626 : decode code 626 = .ok (.iconst 2, 1) := by decide +kernel
theorem d_law_627 : decode code 627 = .ok (.iadd, 1) := by decide +kernel
theorem d_law_628 : decode code 628 = .ok (.iaload, 1) := by decide +kernel
theorem d_law_629 : decode code 629 = .ok (.aload_n 3, 1) := by decide +kernel
theorem d_law_630 : decode code 630 = .ok (.invokestatic 102, 3) := by decide +kernel
theorem d_law_633 : decode code 633 = .ok (.istore 5, 2) := by decide +kernel
theorem d_law_635 : decode code 635 = .ok (.aload_n 2, 1) := by decide +kernel
theorem d_law_636 : decode code 636 = .ok (.aload_n 0, 1) := by decide +kernel
theorem d_law_637 : decode code 637 = .ok (.iload 4, 2) := by decide +kernel
theorem d_law_639 : decode code 639 = .ok (.iconst 1, 1) := by decide +kernel
theorem d_law_640 : decode code 640 = .ok (.iadd, 1) := by decide +kernel
theorem d_law_641 : decode code 641 = .ok (.iaload, 1) := by decide +kernel
theorem d_law_642 : decode code 642 = .ok (.aload_n 0, 1) := by decide +kernel
theorem d_law_643 : decode code 643 = .ok (.iload 4, 2) := by decide +kernel
theorem d_law_645 : decode code 645 = .ok (.iconst 2, 1) := by decide +kernel
theorem d_law_646 : decode code 646 = .ok (.iadd, 1) := by decide +kernel
theorem d_law_647 : decode code 647 = .ok (.iaload, 1) := by decide +kernel
theorem d_law_648 : decode code 648 = .ok (.invokevirtual 105, 3) := by decide +kernel
theorem d_law_651 : decode code 651 = .ok (.istore 6, 2) := by decide +kernel
theorem d_law_653 : decode code 653 = .ok (.aload_n 2, 1) := by decide +kernel
theorem d_law_654 : decode code 654 = .ok (.invokevirtual 61, 3) := by decide +kernel
theorem d_law_657 : decode code 657 = .ok (.iload 5, 2) := by decide +kernel
theorem d_law_659 : decode code 659 = .ok (.if_icmp .eq 5, 3) := by decide +kernel
theorem d_law_662 : decode code 662 = .ok (.iconst 0, 1) := by decide +kernel
theorem d_law_663 : decode code 663 = .ok (.ireturn, 1) := by decide +kernel
theorem d_law_664 : decode code 664 = .ok (.iload 5, 2) := by decide +kernel
theorem d_law_666 : decode code 666 = .ok (.ifCond .ne 22, 3) := by decide +kernel
theorem d_law_669 : decode code 669 = .ok (.aload_n 3, 1) := by decide +kernel
theorem d_law_670 : decode code 670 = .ok (.iconst 0, 1) := by decide +kernel
theorem d_law_671 : decode code 671 = .ok (.laload, 1) := by decide +kernel
theorem d_law_672 : decode code 672 = .ok (.iload 6, 2) := by decide +kernel
theorem d_law_674 : decode code 674 = .ok (.ifCond .eq 7, 3) := by decide +kernel
theorem d_law_677 : decode code 677 = .ok (.lconst 1, 1) := by decide +kernel
theorem d_law_678 : decode code 678 = .ok (.goto 4, 3) := by decide +kernel
theorem d_law_681 : decode code 681 = .ok (.lconst 0, 1) := by decide +kernel
theorem d_law_682 : decode code 682 = .ok (.lcmp, 1) := by decide +kernel
theorem d_law_683 : decode code 683 = .ok (.ifCond .eq 5, 3) := by decide +kernel
theorem d_law_686 : decode code 686 = .ok (.iconst 0, 1) := by decide +kernel
theorem d_law_687 : decode code 687 = .ok (.ireturn, 1) := by decide +kernel
theorem d_law_688 : decode code 688 = .ok (.goto 322, 3) := by decide +kernel
theorem d_law_691 : decode code 691 = .ok (.aload_n 1, 1) := by decide +kernel
theorem d_law_692 : decode code 692 = .ok (.aload_n 0, 1) := by decide +kernel
theorem d_law_693 : decode code 693 = .ok (.iload 4, 2) := by decide +kernel
theorem d_law_695 : decode code 695 = .ok (.iconst 1, 1) := by decide +kernel
theorem d_law_696 : decode code 696 = .ok (.iadd, 1) := by decide +kernel
theorem d_law_697 : decode code 697 = .ok (.iaload, 1) := by decide +kernel
theorem d_law_698 : decode code 698 = .ok (.aload_n 0, 1) := by decide +kernel
theorem d_law_699 : decode code 699 = .ok (.iload 4, 2) := by decide +kernel
theorem d_law_701 : decode code 701 = .ok (.iconst 2, 1) := by decide +kernel
theorem d_law_702 : decode code 702 = .ok (.iadd, 1) := by decide +kernel
theorem d_law_703 : decode code 703 = .ok (.iaload, 1) := by decide +kernel
theorem d_law_704 : decode code 704 = .ok (.ifCond .eq 7, 3) := by decide +kernel
theorem d_law_707 : decode code 707 = .ok (.iconst 1, 1) := by decide +kernel
theorem d_law_708 : decode code 708 = .ok (.goto 4, 3) := by decide +kernel
theorem d_law_711 : decode code 711 = .ok (.iconst 0, 1) := by decide +kernel
theorem d_law_712 : decode code 712 = .ok (.aload_n 3, 1) := by decide +kernel
theorem d_law_713 : decode code 713 = .ok (.invokestatic 106, 3) := by decide +kernel
theorem d_law_716 : decode code 716 = .ok (.istore 5, 2) := by decide +kernel
theorem d_law_718 : decode code 718 = .ok (.aload_n 2, 1) := by decide +kernel
theorem d_law_719 : decode code 719 = .ok (.aload_n 0, 1) := by decide +kernel
theorem d_law_720 : decode code 720 = .ok (.iload 4, 2) := by decide +kernel
theorem d_law_722 : decode code 722 = .ok (.iconst 1, 1) := by decide +kernel
theorem d_law_723 : decode code 723 = .ok (.iadd, 1) := by decide +kernel
theorem d_law_724 : decode code 724 = .ok (.iaload, 1) := by decide +kernel
theorem d_law_725 : decode code 725 = .ok (.aload_n 0, 1) := by decide +kernel
theorem d_law_726 : decode code 726 = .ok (.iload 4, 2) := by decide +kernel
theorem d_law_728 : decode code 728 = .ok (.iconst 2, 1) := by decide +kernel
theorem d_law_729 : decode code 729 = .ok (.iadd, 1) := by decide +kernel
theorem d_law_730 : decode code 730 = .ok (.iaload, 1) := by decide +kernel
theorem d_law_731 : decode code 731 = .ok (.ifCond .eq 7, 3) := by decide +kernel
theorem d_law_734 : decode code 734 = .ok (.iconst 1, 1) := by decide +kernel
theorem d_law_735 : decode code 735 = .ok (.goto 4, 3) := by decide +kernel
theorem d_law_738 : decode code 738 = .ok (.iconst 0, 1) := by decide +kernel
theorem d_law_739 : decode code 739 = .ok (.invokevirtual 109, 3) := by decide +kernel
theorem d_law_742 : decode code 742 = .ok (.istore 6, 2) := by decide +kernel
theorem d_law_744 : decode code 744 = .ok (.aload_n 2, 1) := by decide +kernel
theorem d_law_745 : decode code 745 = .ok (.invokevirtual 61, 3) := by decide +kernel
theorem d_law_748 : decode code 748 = .ok (.iload 5, 2) := by decide +kernel
theorem d_law_750 : decode code 750 = .ok (.if_icmp .eq 5, 3) := by decide +kernel
theorem d_law_753 : decode code 753 = .ok (.iconst 0, 1) := by decide +kernel
theorem d_law_754 : decode code 754 = .ok (.ireturn, 1) := by decide +kernel
theorem d_law_755 : decode code 755 = .ok (.iload 5, 2) := by decide +kernel
theorem d_law_757 : decode code 757 = .ok (.ifCond .ne 15, 3) := by decide +kernel
theorem d_law_760 : decode code 760 = .ok (.aload_n 3, 1) := by decide +kernel
theorem d_law_761 : decode code 761 = .ok (.iconst 0, 1) := by decide +kernel
theorem d_law_762 : decode code 762 = .ok (.laload, 1) := by decide +kernel
theorem d_law_763 : decode code 763 = .ok (.iload 6, 2) := by decide +kernel
theorem d_law_765 : decode code 765 = .ok (.i2l, 1) := by decide +kernel
theorem d_law_766 : decode code 766 = .ok (.lcmp, 1) := by decide +kernel
theorem d_law_767 : decode code 767 = .ok (.ifCond .eq 5, 3) := by decide +kernel
theorem d_law_770 : decode code 770 = .ok (.iconst 0, 1) := by decide +kernel
theorem d_law_771 : decode code 771 = .ok (.ireturn, 1) := by decide +kernel
theorem d_law_772 : decode code 772 = .ok (.goto 238, 3) := by decide +kernel
theorem d_law_775 : decode code 775 = .ok (.aload_n 1, 1) := by decide +kernel
theorem d_law_776 : decode code 776 = .ok (.aload_n 0, 1) := by decide +kernel
theorem d_law_777 : decode code 777 = .ok (.iload 4, 2) := by decide +kernel
theorem d_law_779 : decode code 779 = .ok (.iconst 1, 1) := by decide +kernel
theorem d_law_780 : decode code 780 = .ok (.iadd, 1) := by decide +kernel
theorem d_law_781 : decode code 781 = .ok (.iaload, 1) := by decide +kernel
theorem d_law_782 : decode code 782 = .ok (.ifCond .eq 7, 3) := by decide +kernel
theorem d_law_785 : decode code 785 = .ok (.iconst 1, 1) := by decide +kernel
theorem d_law_786 : decode code 786 = .ok (.goto 4, 3) := by decide +kernel
theorem d_law_789 : decode code 789 = .ok (.iconst 0, 1) := by decide +kernel
theorem d_law_790 : decode code 790 = .ok (.invokevirtual 110, 3) := by decide +kernel
theorem d_law_793 : decode code 793 = .ok (.aload_n 2, 1) := by decide +kernel
theorem d_law_794 : decode code 794 = .ok (.aload_n 0, 1) := by decide +kernel
theorem d_law_795 : decode code 795 = .ok (.iload 4, 2) := by decide +kernel
theorem d_law_797 : decode code 797 = .ok (.iconst 1, 1) := by decide +kernel
theorem d_law_798 : decode code 798 = .ok (.iadd, 1) := by decide +kernel
theorem d_law_799 : decode code 799 = .ok (.iaload, 1) := by decide +kernel
theorem d_law_800 : decode code 800 = .ok (.ifCond .eq 7, 3) := by decide +kernel
theorem d_law_803 : decode code 803 = .ok (.iconst 1, 1) := by decide +kernel
theorem d_law_804 : decode code 804 = .ok (.goto 4, 3) := by decide +kernel
theorem d_law_807 : decode code 807 = .ok (.iconst 0, 1) := by decide +kernel
theorem d_law_808 : decode code 808 = .ok (.invokevirtual 114, 3) := by decide +kernel
theorem d_law_811 : decode code 811 = .ok (.if_icmp .eq 199, 3) := by decide +kernel
theorem d_law_814 : decode code 814 = .ok (.iconst 0, 1) := by decide +kernel
theorem d_law_815 : decode code 815 = .ok (.ireturn, 1) := by decide +kernel
theorem d_law_816 : decode code 816 = .ok (.aload_n 1, 1) := by decide +kernel
theorem d_law_817 : decode code 817 = .ok (.invokevirtual 115, 3) := by decide +kernel
theorem d_law_820 : decode code 820 = .ok (.aload_n 2, 1) := by decide +kernel
theorem d_law_821 : decode code 821 = .ok (.invokevirtual 118, 3) := by decide +kernel
theorem d_law_824 : decode code 824 = .ok (.if_icmp .eq 186, 3) := by decide +kernel
theorem d_law_827 : decode code 827 = .ok (.iconst 0, 1) := by decide +kernel
theorem d_law_828 : decode code 828 = .ok (.ireturn, 1) := by decide +kernel
theorem d_law_829 : decode code 829 = .ok (.aload_n 1, 1) := by decide +kernel
theorem d_law_830 : decode code 830 = .ok (.aload_n 0, 1) := by decide +kernel
theorem d_law_831 : decode code 831 = .ok (.iload 4, 2) := by decide +kernel
theorem d_law_833 : decode code 833 = .ok (.iconst 1, 1) := by decide +kernel
theorem d_law_834 : decode code 834 = .ok (.iadd, 1) := by decide +kernel
theorem d_law_835 : decode code 835 = .ok (.iaload, 1) := by decide +kernel
theorem d_law_836 : decode code 836 = .ok (.invokevirtual 119, 3) := by decide +kernel
theorem d_law_839 : decode code 839 = .ok (.aload_n 2, 1) := by decide +kernel
theorem d_law_840 : decode code 840 = .ok (.aload_n 0, 1) := by decide +kernel
theorem d_law_841 : decode code 841 = .ok (.iload 4, 2) := by decide +kernel
theorem d_law_843 : decode code 843 = .ok (.iconst 1, 1) := by decide +kernel
theorem d_law_844 : decode code 844 = .ok (.iadd, 1) := by decide +kernel
theorem d_law_845 : decode code 845 = .ok (.iaload, 1) := by decide +kernel
theorem d_law_846 : decode code 846 = .ok (.invokevirtual 122, 3) := by decide +kernel
theorem d_law_849 : decode code 849 = .ok (.if_icmp .eq 161, 3) := by decide +kernel
theorem d_law_852 : decode code 852 = .ok (.iconst 0, 1) := by decide +kernel
theorem d_law_853 : decode code 853 = .ok (.ireturn, 1) := by decide +kernel
theorem d_law_854 : decode code 854 = .ok (.aload_n 1, 1) := by decide +kernel
theorem d_law_855 : decode code 855 = .ok (.aload_n 0, 1) := by decide +kernel
theorem d_law_856 : decode code 856 = .ok (.iload 4, 2) := by decide +kernel
theorem d_law_858 : decode code 858 = .ok (.iconst 1, 1) := by decide +kernel
theorem d_law_859 : decode code 859 = .ok (.iadd, 1) := by decide +kernel
theorem d_law_860 : decode code 860 = .ok (.iaload, 1) := by decide +kernel
theorem d_law_861 : decode code 861 = .ok (.aload_n 3, 1) := by decide +kernel
theorem d_law_862 : decode code 862 = .ok (.invokestatic 123, 3) := by decide +kernel
theorem d_law_865 : decode code 865 = .ok (.istore 5, 2) := by decide +kernel
theorem d_law_867 : decode code 867 = .ok (.aload_n 2, 1) := by decide +kernel
theorem d_law_868 : decode code 868 = .ok (.aload_n 0, 1) := by decide +kernel
theorem d_law_869 : decode code 869 = .ok (.iload 4, 2) := by decide +kernel
theorem d_law_871 : decode code 871 = .ok (.iconst 1, 1) := by decide +kernel
theorem d_law_872 : decode code 872 = .ok (.iadd, 1) := by decide +kernel
theorem d_law_873 : decode code 873 = .ok (.iaload, 1) := by decide +kernel
theorem d_law_874 : decode code 874 = .ok (.invokevirtual 125, 3) := by decide +kernel
theorem d_law_877 : decode code 877 = .ok (.istore 6, 2) := by decide +kernel
theorem d_law_879 : decode code 879 = .ok (.aload_n 2, 1) := by decide +kernel
theorem d_law_880 : decode code 880 = .ok (.invokevirtual 61, 3) := by decide +kernel
theorem d_law_883 : decode code 883 = .ok (.iload 5, 2) := by decide +kernel
theorem d_law_885 : decode code 885 = .ok (.if_icmp .eq 5, 3) := by decide +kernel
theorem d_law_888 : decode code 888 = .ok (.iconst 0, 1) := by decide +kernel
theorem d_law_889 : decode code 889 = .ok (.ireturn, 1) := by decide +kernel
theorem d_law_890 : decode code 890 = .ok (.iload 5, 2) := by decide +kernel
theorem d_law_892 : decode code 892 = .ok (.ifCond .ne 22, 3) := by decide +kernel
theorem d_law_895 : decode code 895 = .ok (.aload_n 3, 1) := by decide +kernel
theorem d_law_896 : decode code 896 = .ok (.iconst 0, 1) := by decide +kernel
theorem d_law_897 : decode code 897 = .ok (.laload, 1) := by decide +kernel
theorem d_law_898 : decode code 898 = .ok (.iload 6, 2) := by decide +kernel
theorem d_law_900 : decode code 900 = .ok (.ifCond .eq 7, 3) := by decide +kernel
theorem d_law_903 : decode code 903 = .ok (.lconst 1, 1) := by decide +kernel
theorem d_law_904 : decode code 904 = .ok (.goto 4, 3) := by decide +kernel
theorem d_law_907 : decode code 907 = .ok (.lconst 0, 1) := by decide +kernel
theorem d_law_908 : decode code 908 = .ok (.lcmp, 1) := by decide +kernel
theorem d_law_909 : decode code 909 = .ok (.ifCond .eq 5, 3) := by decide +kernel
theorem d_law_912 : decode code 912 = .ok (.iconst 0, 1) := by decide +kernel
theorem d_law_913 : decode code 913 = .ok (.ireturn, 1) := by decide +kernel
theorem d_law_914 : decode code 914 = .ok (.goto 96, 3) := by decide +kernel
theorem d_law_917 : decode code 917 = .ok (.aload_n 1, 1) := by decide +kernel
theorem d_law_918 : decode code 918 = .ok (.aload_n 0, 1) := by decide +kernel
theorem d_law_919 : decode code 919 = .ok (.iload 4, 2) := by decide +kernel
theorem d_law_921 : decode code 921 = .ok (.iconst 1, 1) := by decide +kernel
theorem d_law_922 : decode code 922 = .ok (.iadd, 1) := by decide +kernel
theorem d_law_923 : decode code 923 = .ok (.iaload, 1) := by decide +kernel
theorem d_law_924 : decode code 924 = .ok (.aload_n 3, 1) := by decide +kernel
theorem d_law_925 : decode code 925 = .ok (.invokestatic 126, 3) := by decide +kernel
theorem d_law_928 : decode code 928 = .ok (.istore 5, 2) := by decide +kernel
theorem d_law_930 : decode code 930 = .ok (.aload_n 2, 1) := by decide +kernel
theorem d_law_931 : decode code 931 = .ok (.aload_n 0, 1) := by decide +kernel
theorem d_law_932 : decode code 932 = .ok (.iload 4, 2) := by decide +kernel
theorem d_law_934 : decode code 934 = .ok (.iconst 1, 1) := by decide +kernel
theorem d_law_935 : decode code 935 = .ok (.iadd, 1) := by decide +kernel
theorem d_law_936 : decode code 936 = .ok (.iaload, 1) := by decide +kernel
theorem d_law_937 : decode code 937 = .ok (.invokevirtual 128, 3) := by decide +kernel
theorem d_law_940 : decode code 940 = .ok (.istore 6, 2) := by decide +kernel
theorem d_law_942 : decode code 942 = .ok (.aload_n 2, 1) := by decide +kernel
theorem d_law_943 : decode code 943 = .ok (.invokevirtual 61, 3) := by decide +kernel
theorem d_law_946 : decode code 946 = .ok (.iload 5, 2) := by decide +kernel
theorem d_law_948 : decode code 948 = .ok (.if_icmp .eq 5, 3) := by decide +kernel
theorem d_law_951 : decode code 951 = .ok (.iconst 0, 1) := by decide +kernel
theorem d_law_952 : decode code 952 = .ok (.ireturn, 1) := by decide +kernel
theorem d_law_953 : decode code 953 = .ok (.iload 5, 2) := by decide +kernel
theorem d_law_955 : decode code 955 = .ok (.ifCond .ne 15, 3) := by decide +kernel
theorem d_law_958 : decode code 958 = .ok (.aload_n 3, 1) := by decide +kernel
theorem d_law_959 : decode code 959 = .ok (.iconst 0, 1) := by decide +kernel
theorem d_law_960 : decode code 960 = .ok (.laload, 1) := by decide +kernel
theorem d_law_961 : decode code 961 = .ok (.iload 6, 2) := by decide +kernel
theorem d_law_963 : decode code 963 = .ok (.i2l, 1) := by decide +kernel
theorem d_law_964 : decode code 964 = .ok (.lcmp, 1) := by decide +kernel
theorem d_law_965 : decode code 965 = .ok (.ifCond .eq 5, 3) := by decide +kernel
theorem d_law_968 : decode code 968 = .ok (.iconst 0, 1) := by decide +kernel
theorem d_law_969 : decode code 969 = .ok (.ireturn, 1) := by decide +kernel
theorem d_law_970 : decode code 970 = .ok (.goto 40, 3) := by decide +kernel
theorem d_law_973 : decode code 973 = .ok (.aload_n 1, 1) := by decide +kernel
theorem d_law_974 : decode code 974 = .ok (.invokevirtual 129, 3) := by decide +kernel
theorem d_law_977 : decode code 977 = .ok (.aload_n 2, 1) := by decide +kernel
theorem d_law_978 : decode code 978 = .ok (.invokevirtual 132, 3) := by decide +kernel
theorem d_law_981 : decode code 981 = .ok (.goto 29, 3) := by decide +kernel
theorem d_law_984 : decode code 984 = .ok (.aload_n 1, 1) := by decide +kernel
theorem d_law_985 : decode code 985 = .ok (.invokevirtual 133, 3) := by decide +kernel
theorem d_law_988 : decode code 988 = .ok (.aload_n 2, 1) := by decide +kernel
theorem d_law_989 : decode code 989 = .ok (.invokevirtual 136, 3) := by decide +kernel
theorem d_law_992 : decode code 992 = .ok (.if_icmp .eq 18, 3) := by decide +kernel
theorem d_law_995 : decode code 995 = .ok (.iconst 0, 1) := by decide +kernel
theorem d_law_996 : decode code 996 = .ok (.ireturn, 1) := by decide +kernel
theorem d_law_997 : decode code 997 = .ok (.aload_n 1, 1) := by decide +kernel
theorem d_law_998 : decode code 998 = .ok (.invokevirtual 137, 3) := by decide +kernel
theorem d_law_1001 : decode code 1001 = .ok (.aload_n 2, 1) := by decide +kernel
theorem d_law_1002 : decode code 1002 = .ok (.invokevirtual 140, 3) := by decide +kernel
theorem d_law_1005 : decode code 1005 = .ok (.if_icmp .eq 5, 3) := by decide +kernel
theorem d_law_1008 : decode code 1008 = .ok (.iconst 0, 1) := by decide +kernel
theorem d_law_1009 : decode code 1009 = .ok (.ireturn, 1) := by decide +kernel
theorem d_law_1010 : decode code 1010 = .ok (.iinc 4 4, 3) := by decide +kernel
theorem d_law_1013 : decode code 1013 = .ok (.goto (-990), 3) := by decide +kernel
theorem d_law_1016 : decode code 1016 = .ok (.iconst 1, 1) := by decide +kernel
theorem d_law_1017 : decode code 1017 = .ok (.ireturn, 1) := by decide +kernel
