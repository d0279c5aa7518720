/-! The law's switch and its loop. -/
section LF
variable {Z : va_W → List (Option Value) → Nat → List Value → Prop} {D : va_G} {cl : List vw_C} {tys : List (ClassId × FieldType)} {cc : ByteArray} {nL : Nat} {own : String} {Ts : List Cond} {R : Room} {ret : Option FieldType} {post : Option Value → va_W → Prop}
variable {ws : va_W} {L : List (Option Value)} {pc : Nat} {st : List Value}
theorem zd_tabIn {l : Launch} (E : zd_E Z l D cl tys cc nL own Ts R ret post) {dflt lo hi : Int} {offs : Array Int} {len : Nat} {x : Int32} {off : Int} (tgt : Nat) (d : decode cc pc = .ok (.tableswitch dflt lo hi offs, len)) (h1 : ¬ x.toInt < lo) (h2 : ¬ hi < x.toInt) (ho : offs[(x.toInt - lo).toNat]? = some off) (ht : (pc : Int) + off = (tgt : Int)) (k : Z ws L tgt st) : Z ws L pc (.int x :: st) := by
  obtain ⟨p, e, s, m, args, below, meth, c, A, nc, ns, Q, ⟨hx, hb, hml, hown, hts, hK, hr, hlk⟩, ⟨hnc, hns⟩, hQ, rfl⟩ := E
  exact fun H locs ls hP hD hS hl => lv_tableIn hx hb d h1 h2 ho ht (k H locs ls hP hD hS hl)
theorem zd_tabOut {l : Launch} (E : zd_E Z l D cl tys cc nL own Ts R ret post) {dflt lo hi : Int} {offs : Array Int} {len : Nat} {x : Int32} (tgt : Nat) (d : decode cc pc = .ok (.tableswitch dflt lo hi offs, len)) (h : x.toInt < lo ∨ hi < x.toInt) (ht : (pc : Int) + dflt = (tgt : Int)) (k : Z ws L tgt st) : Z ws L pc (.int x :: st) := by
  obtain ⟨p, e, s, m, args, below, meth, c, A, nc, ns, Q, ⟨hx, hb, hml, hown, hts, hK, hr, hlk⟩, ⟨hnc, hns⟩, hQ, rfl⟩ := E
  exact fun H locs ls hP hD hS hl => lv_tableOut hx hb d h ht (k H locs ls hP hD hS hl)
variable {Zf : Nat → Nat → va_W → List (Option Value) → Nat → List Value → Prop} {l : Launch} {k : Nat → ClassId} {q : Nat → Nat} {o b Ln nc ns i : Nat} {xs : Nat → Int32} {v : Nat → Int32} {r : Nat → Nat → Int32} {f : Nat → Int64} {L5 L6 : Option Value}
theorem lw_sw (K : lw_K Zf l D k b Ln xs) (hnc : nc + 1 ≤ 601024) (hns : ns + 6 ≤ 7293034) (hi : i + 4 ≤ Ln) (I : sy_I v r) (kk : lw_G Zf k q o b nc ns i) {j : Nat} (hj : j < 32) : Zf nc ns (wd k q v r (ow k o f)) [some (.ref b), some (.ref (q 0)), some (.ref (q 22)), some (.ref o), some (.int (nI i)), L5, L6] 39 [.int (nI j)] := by
  obtain ⟨hl, X, hsld, hslen, hLn⟩ := id K
  have E := X.E (nc := nc) (ns := ns) (by omega) (by omega)
  have e : (nI j).toInt = (j : Int) := nI_toInt (by omega)
  by_cases h : j < 21
  · match j, h, e with
    | 0, _, e => exact zd_tabIn E 136 d_law_39 (by decide) (by decide) (off := 97) (by decide) (by decide) (lw_c0 K hnc hns hi I kk)
    | 1, _, e => exact zd_tabIn E 236 d_law_39 (by decide) (by decide) (off := 197) (by decide) (by decide) (lw_c1 K hnc hns hi I kk)
    | 2, _, e => exact zd_tabIn E 292 d_law_39 (by decide) (by decide) (off := 253) (by decide) (by decide) (lw_c2 K hnc hns hi I kk)
    | 3, _, e => exact zd_tabIn E 352 d_law_39 (by decide) (by decide) (off := 313) (by decide) (by decide) (lw_c3 K hnc hns hi I kk)
    | 4, _, e => exact zd_tabIn E 363 d_law_39 (by decide) (by decide) (off := 324) (by decide) (by decide) (lw_c4 K hnc hns hi I kk)
    | 5, _, e => exact zd_tabIn E 426 d_law_39 (by decide) (by decide) (off := 387) (by decide) (by decide) (lw_c5 K hnc hns hi I kk)
    | 6, _, e => exact zd_tabIn E 489 d_law_39 (by decide) (by decide) (off := 450) (by decide) (by decide) (lw_c6 K hnc hns hi I kk)
    | 7, _, e => exact zd_tabIn E 552 d_law_39 (by decide) (by decide) (off := 513) (by decide) (by decide) (lw_c7 K hnc hns hi I kk)
    | 8, _, e => exact zd_tabIn E 565 d_law_39 (by decide) (by decide) (off := 526) (by decide) (by decide) (lw_c8 K hnc hns hi I kk)
    | 9, _, e => exact zd_tabIn E 578 d_law_39 (by decide) (by decide) (off := 539) (by decide) (by decide) (lw_c9 K hnc hns hi I kk)
    | 10, _, e => exact zd_tabIn E 603 d_law_39 (by decide) (by decide) (off := 564) (by decide) (by decide) (lw_c10 K hnc hns hi I kk)
    | 11, _, e => exact zd_tabIn E 616 d_law_39 (by decide) (by decide) (off := 577) (by decide) (by decide) (lw_c11 K hnc hns hi I kk)
    | 12, _, e => exact zd_tabIn E 691 d_law_39 (by decide) (by decide) (off := 652) (by decide) (by decide) (lw_c12 K hnc hns hi I kk)
    | 13, _, e => exact zd_tabIn E 775 d_law_39 (by decide) (by decide) (off := 736) (by decide) (by decide) (lw_c13 K hnc hns hi I kk)
    | 14, _, e => exact zd_tabIn E 816 d_law_39 (by decide) (by decide) (off := 777) (by decide) (by decide) (lw_c14 K hnc hns hi I kk)
    | 15, _, e => exact zd_tabIn E 829 d_law_39 (by decide) (by decide) (off := 790) (by decide) (by decide) (lw_c15 K hnc hns hi I kk)
    | 16, _, e => exact zd_tabIn E 854 d_law_39 (by decide) (by decide) (off := 815) (by decide) (by decide) (lw_c16 K hnc hns hi I kk)
    | 17, _, e => exact zd_tabIn E 917 d_law_39 (by decide) (by decide) (off := 878) (by decide) (by decide) (lw_c17 K hnc hns hi I kk)
    | 18, _, e => exact zd_tabIn E 973 d_law_39 (by decide) (by decide) (off := 934) (by decide) (by decide) (lw_c18 K hnc hns hi I kk)
    | 19, _, e => exact zd_tabIn E 984 d_law_39 (by decide) (by decide) (off := 945) (by decide) (by decide) (lw_c19 K hnc hns hi I kk)
    | 20, _, e => exact zd_tabIn E 997 d_law_39 (by decide) (by decide) (off := 958) (by decide) (by decide) (lw_c20 K hnc hns hi I kk)
    | n + 21, h, _ => exact absurd h (by omega)
  · refine zd_tabOut E 1010 d_law_39 (by rw [e]; omega) (by decide) ?_
    exact zx_widen X (Nat.le_succ _) (Nat.le_add_right _ 6) (kk v r f L5 L6 I)
theorem lw_loop (K : lw_K Zf l D k b Ln xs) : ∀ (m t : Nat) (v : Nat → Int32) (r : Nat → Nat → Int32) (f : Nat → Int64) (L5 L6 : Option Value), Ln ≤ 4 * (t + m) → t ≤ 512 → sy_I v r → Zf (35 + t) (7574 + 6 * t) (wd k q v r (ow k o f)) [some (.ref b), some (.ref (q 0)), some (.ref (q 22)), some (.ref o), some (.int (nI (4 * t))), L5, L6] 23 [] := by
  obtain ⟨hl, X, hsld, hslen, hLn⟩ := id K
  intro m
  induction m with
  | zero =>
    intro t v r f L5 L6 hm ht I
    have E := X.E (nc := 35 + t) (ns := 7574 + 6 * t) (by omega) (by omega)
    refine zd_iload E (pc := 23) d_law_23 rfl ?_
    refine zd_aload_n E (pc := 25) d_law_25 rfl ?_
    refine hslen _ _ _ _ _ _ d_law_26 ?_
    refine zd_iconst E (pc := 27) (v := (nI 4)) d_law_27 (by decide) ?_
    refine zd_isub E (pc := 28) d_law_28 ?_
    refine zd_ic_gt E (pc := 29) 1016 d_law_29 (by decide) (fun h => ?_) (fun h => ?_)
    · refine zd_iconst E (pc := 1016) (v := (nI 1)) d_law_1016 (by decide) ?_
      exact zd_zret E (pc := 1017) d_law_1017 rfl rfl
    · refine absurd ?_ h
      rw [Int32.lt_iff_toInt_lt, pk_sub_toInt (by omega) (by decide), nI_toInt (by omega)]
      omega
  | succ m ih =>
    intro t v r f L5 L6 hm ht I
    have E := X.E (nc := 35 + t) (ns := 7574 + 6 * t) (by omega) (by omega)
    refine zd_iload E (pc := 23) d_law_23 rfl ?_
    refine zd_aload_n E (pc := 25) d_law_25 rfl ?_
    refine hslen _ _ _ _ _ _ d_law_26 ?_
    refine zd_iconst E (pc := 27) (v := (nI 4)) d_law_27 (by decide) ?_
    refine zd_isub E (pc := 28) d_law_28 ?_
    refine zd_ic_gt E (pc := 29) 1016 d_law_29 (by decide) (fun h => ?_) (fun h => ?_)
    · refine zd_iconst E (pc := 1016) (v := (nI 1)) d_law_1016 (by decide) ?_
      exact zd_zret E (pc := 1017) d_law_1017 rfl rfl
    · have hi : 4 * t + 4 ≤ Ln := by
        rw [Int32.lt_iff_toInt_lt, pk_sub_toInt (by omega) (by decide), nI_toInt (by omega)] at h
        omega
      refine zd_aload_n E (pc := 32) d_law_32 rfl ?_
      refine zd_iload E (pc := 33) d_law_33 rfl ?_
      refine hsld _ _ _ _ _ _ (4 * t) d_law_35 (by omega) ?_
      refine zd_bipush E (pc := 36) (v := (nI 31)) d_law_36 (by decide) ?_
      refine zd_iand E (pc := 38) d_law_38 ?_
      obtain ⟨j, hj, ej⟩ := pk_andE (xs (4 * t)) (m := nI 31) 5 (by decide)
      rw [ej]
      refine lw_sw K (by omega) (by omega) hi I (fun v1 r1 f1 L51 L61 I1 => ?_) hj
      have E := X.E (nc := 35 + t + 1) (ns := 7574 + 6 * t + 6) (by omega) (by omega)
      refine zd_iinc E (pc := 1010) d_law_1010 rfl (show nI (4 * t) + nI 4 = nI (4 * (t + 1)) from nI_add _ _) (by decide) ?_
      refine zd_goto E (pc := 1013) 23 d_law_1013 (by decide) ?_
      exact ih (t + 1) v1 r1 f1 L51 L61 (by omega) (by omega) I1
end LF
