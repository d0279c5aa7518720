/-! The law's turns: the calls that may refuse. -/
section LD
variable {Zf : Nat → Nat → va_W → List (Option Value) → Nat → List Value → Prop} {l : Launch} {D : va_G} {k : Nat → ClassId} {q : Nat → Nat} {o b Ln nc ns i : Nat} {xs : Nat → Int32} {v : Nat → Int32} {r : Nat → Nat → Int32} {f : Nat → Int64} {L5 L6 : Option Value}
theorem nI_ne {a : Nat} (h : nI a = 0) (ha : a < 100) : a = 0 := (nI_eq (by omega) (by decide)).mp (h.trans nI_0.symm)
set_option maxRecDepth 100000 in
set_option maxHeartbeats 4000000 in
theorem lw_t0 (K : lw_K Zf l D k b Ln xs) (hnc : nc + 1 ≤ 601024) (hns : ns + 6 ≤ 7293034) {y : Int32} {kc : Nat} (hk : kc < 10) (h10 : v 10 = nI kc) (hval : kc = 0 → f 0 = y.toInt64) (I : sy_I v r) (kk : lw_G Zf k q o b nc ns i) : Zf (nc + 1) (ns + 6) (wd k q v r (ow k o f)) [some (.ref b), some (.ref (q 0)), some (.ref (q 22)), some (.ref o), some (.int (nI i)), some (.int (nI kc)), L6] 203 [.int y] := by
  obtain ⟨hl, X, hsld, hslen, hLn⟩ := K
  have E := X.E (nc := nc + 1) (ns := ns + 6) hnc hns
  refine zd_istore E (pc := 203) d_law_203 (by decide) ?_
  refine zd_aload_n E (pc := 205) d_law_205 rfl ?_
  refine zd_callVR E (pc := 206) d_law_206 kc_L_61 rfl ki_M_thrown ke_M_thrown 22 rfl rfl (c_M_thrown l D) ⟨by decide, by decide⟩ rfl (Nat.le_of_ble_eq_true rfl) (fun v1 ws1 hv1 => ?_)
  obtain ⟨rfl, rfl⟩ := hv1
  rw [h10]
  refine zd_iload E (pc := 209) d_law_209 rfl ?_
  refine zd_nc_eq E (pc := 211) 216 d_law_211 (by decide) ((by omega)) ((by omega)) (fun h => ?_) (fun h => ?_)
  · refine zd_iload E (pc := 216) d_law_216 rfl ?_
    refine zd_if_ne E (pc := 218) 233 d_law_218 (by decide) (fun h5 => ?_) (fun h5 => ?_)
    · refine zd_goto E (pc := 233) 1010 d_law_233 (by decide) ?_
      exact kk v r f _ _ I
    · have hk0 : kc = 0 := nI_ne (Classical.not_not.mp h5) (by omega)
      refine zd_aload_n E (pc := 221) d_law_221 rfl ?_
      refine zd_iconst E (pc := 222) (v := (nI 0)) d_law_222 (by decide) ?_
      refine zd_lald E (pc := 223) d_law_223 34 rfl (t0 := 3) rfl ?_
      rw [hval hk0]
      refine zd_iload E (pc := 224) d_law_224 rfl ?_
      refine zd_i2l E (pc := 226) d_law_226 ?_
      refine zd_lcmp E (pc := 227) d_law_227 ?_
      refine zd_if_eq E (pc := 228) 233 d_law_228 (by decide) (fun h6 => ?_) (fun h6 => ?_)
      · refine zd_goto E (pc := 233) 1010 d_law_233 (by decide) ?_
        exact kk v r f _ _ I
      · exact absurd (lg_cmp0.mpr rfl) h6
  · exact absurd rfl h
set_option maxRecDepth 100000 in
set_option maxHeartbeats 4000000 in
theorem lw_t1 (K : lw_K Zf l D k b Ln xs) (hnc : nc + 1 ≤ 601024) (hns : ns + 6 ≤ 7293034) {y : Int32} {kc : Nat} (hk : kc < 10) (h10 : v 10 = nI kc) (hval : kc = 0 → f 0 = y.toInt64) (I : sy_I v r) (kk : lw_G Zf k q o b nc ns i) : Zf (nc + 1) (ns + 6) (wd k q v r (ow k o f)) [some (.ref b), some (.ref (q 0)), some (.ref (q 22)), some (.ref o), some (.int (nI i)), some (.int (nI kc)), L6] 259 [.int y] := by
  obtain ⟨hl, X, hsld, hslen, hLn⟩ := K
  have E := X.E (nc := nc + 1) (ns := ns + 6) hnc hns
  refine zd_istore E (pc := 259) d_law_259 (by decide) ?_
  refine zd_aload_n E (pc := 261) d_law_261 rfl ?_
  refine zd_callVR E (pc := 262) d_law_262 kc_L_61 rfl ki_M_thrown ke_M_thrown 22 rfl rfl (c_M_thrown l D) ⟨by decide, by decide⟩ rfl (Nat.le_of_ble_eq_true rfl) (fun v1 ws1 hv1 => ?_)
  obtain ⟨rfl, rfl⟩ := hv1
  rw [h10]
  refine zd_iload E (pc := 265) d_law_265 rfl ?_
  refine zd_nc_eq E (pc := 267) 272 d_law_267 (by decide) ((by omega)) ((by omega)) (fun h => ?_) (fun h => ?_)
  · refine zd_iload E (pc := 272) d_law_272 rfl ?_
    refine zd_if_ne E (pc := 274) 289 d_law_274 (by decide) (fun h5 => ?_) (fun h5 => ?_)
    · refine zd_goto E (pc := 289) 1010 d_law_289 (by decide) ?_
      exact kk v r f _ _ I
    · have hk0 : kc = 0 := nI_ne (Classical.not_not.mp h5) (by omega)
      refine zd_aload_n E (pc := 277) d_law_277 rfl ?_
      refine zd_iconst E (pc := 278) (v := (nI 0)) d_law_278 (by decide) ?_
      refine zd_lald E (pc := 279) d_law_279 34 rfl (t0 := 3) rfl ?_
      rw [hval hk0]
      refine zd_iload E (pc := 280) d_law_280 rfl ?_
      refine zd_i2l E (pc := 282) d_law_282 ?_
      refine zd_lcmp E (pc := 283) d_law_283 ?_
      refine zd_if_eq E (pc := 284) 289 d_law_284 (by decide) (fun h6 => ?_) (fun h6 => ?_)
      · refine zd_goto E (pc := 289) 1010 d_law_289 (by decide) ?_
        exact kk v r f _ _ I
      · exact absurd (lg_cmp0.mpr rfl) h6
  · exact absurd rfl h
set_option maxRecDepth 100000 in
set_option maxHeartbeats 4000000 in
theorem lw_t2 (K : lw_K Zf l D k b Ln xs) (hnc : nc + 1 ≤ 601024) (hns : ns + 6 ≤ 7293034) {kc : Nat} (hk : kc < 10) (h10 : v 10 = nI kc) (I : sy_I v r) (kk : lw_G Zf k q o b nc ns i) : Zf (nc + 1) (ns + 6) (wd k q v r (ow k o f)) [some (.ref b), some (.ref (q 0)), some (.ref (q 22)), some (.ref o), some (.int (nI i)), some (.int (nI kc)), L6] 338 [] := by
  obtain ⟨hl, X, hsld, hslen, hLn⟩ := K
  have E := X.E (nc := nc + 1) (ns := ns + 6) hnc hns
  refine zd_aload_n E (pc := 338) d_law_338 rfl ?_
  refine zd_callVR E (pc := 339) d_law_339 kc_L_61 rfl ki_M_thrown ke_M_thrown 22 rfl rfl (c_M_thrown l D) ⟨by decide, by decide⟩ rfl (Nat.le_of_ble_eq_true rfl) (fun v1 ws1 hv1 => ?_)
  obtain ⟨rfl, rfl⟩ := hv1
  rw [h10]
  refine zd_iload E (pc := 342) d_law_342 rfl ?_
  refine zd_nc_eq E (pc := 344) 349 d_law_344 (by decide) ((by omega)) ((by omega)) (fun h => ?_) (fun h => ?_)
  · refine zd_goto E (pc := 349) 1010 d_law_349 (by decide) ?_
    exact kk v r f _ _ I
  · exact absurd rfl h
set_option maxRecDepth 100000 in
set_option maxHeartbeats 4000000 in
theorem lw_t4 (K : lw_K Zf l D k b Ln xs) (hnc : nc + 1 ≤ 601024) (hns : ns + 6 ≤ 7293034) {y : Int32} {kc : Nat} (hk : kc < 10) (h10 : v 10 = nI kc) (hval : kc = 0 → f 0 = (if y = 0 then 0 else 1)) (I : sy_I v r) (kk : lw_G Zf k q o b nc ns i) : Zf (nc + 1) (ns + 6) (wd k q v r (ow k o f)) [some (.ref b), some (.ref (q 0)), some (.ref (q 22)), some (.ref o), some (.int (nI i)), some (.int (nI kc)), L6] 386 [.int y] := by
  obtain ⟨hl, X, hsld, hslen, hLn⟩ := K
  have E := X.E (nc := nc + 1) (ns := ns + 6) hnc hns
  refine zd_istore E (pc := 386) d_law_386 (by decide) ?_
  refine zd_aload_n E (pc := 388) d_law_388 rfl ?_
  refine zd_callVR E (pc := 389) d_law_389 kc_L_61 rfl ki_M_thrown ke_M_thrown 22 rfl rfl (c_M_thrown l D) ⟨by decide, by decide⟩ rfl (Nat.le_of_ble_eq_true rfl) (fun v1 ws1 hv1 => ?_)
  obtain ⟨rfl, rfl⟩ := hv1
  rw [h10]
  refine zd_iload E (pc := 392) d_law_392 rfl ?_
  refine zd_nc_eq E (pc := 394) 399 d_law_394 (by decide) ((by omega)) ((by omega)) (fun h => ?_) (fun h => ?_)
  · refine zd_iload E (pc := 399) d_law_399 rfl ?_
    refine zd_if_ne E (pc := 401) 423 d_law_401 (by decide) (fun h5 => ?_) (fun h5 => ?_)
    · refine zd_goto E (pc := 423) 1010 d_law_423 (by decide) ?_
      exact kk v r f _ _ I
    · have hk0 : kc = 0 := nI_ne (Classical.not_not.mp h5) (by omega)
      refine zd_aload_n E (pc := 404) d_law_404 rfl ?_
      refine zd_iconst E (pc := 405) (v := (nI 0)) d_law_405 (by decide) ?_
      refine zd_lald E (pc := 406) d_law_406 34 rfl (t0 := 3) rfl ?_
      rw [hval hk0]
      refine zd_iload E (pc := 407) d_law_407 rfl ?_
      refine zd_if_eq E (pc := 409) 416 d_law_409 (by decide) (fun hy => ?_) (fun hy => ?_)
      · rw [if_pos hy]
        refine zd_lconst E (pc := 416) (v := 0) d_law_416 (by decide) ?_
        refine zd_lcmp E (pc := 417) d_law_417 ?_
        refine zd_if_eq E (pc := 418) 423 d_law_418 (by decide) (fun h6 => ?_) (fun h6 => ?_)
        · refine zd_goto E (pc := 423) 1010 d_law_423 (by decide) ?_
          exact kk v r f _ _ I
        · exact absurd (lg_cmp0.mpr rfl) h6
      · rw [if_neg hy]
        refine zd_lconst E (pc := 412) (v := 1) d_law_412 (by decide) ?_
        refine zd_goto E (pc := 413) 417 d_law_413 (by decide) ?_
        refine zd_lcmp E (pc := 417) d_law_417 ?_
        refine zd_if_eq E (pc := 418) 423 d_law_418 (by decide) (fun h6 => ?_) (fun h6 => ?_)
        · refine zd_goto E (pc := 423) 1010 d_law_423 (by decide) ?_
          exact kk v r f _ _ I
        · exact absurd (lg_cmp0.mpr rfl) h6
  · exact absurd rfl h
set_option maxRecDepth 100000 in
set_option maxHeartbeats 4000000 in
theorem lw_t5 (K : lw_K Zf l D k b Ln xs) (hnc : nc + 1 ≤ 601024) (hns : ns + 6 ≤ 7293034) {y : Int32} {kc : Nat} (hk : kc < 10) (h10 : v 10 = nI kc) (hval : kc = 0 → f 0 = (if y = 0 then 0 else 1)) (I : sy_I v r) (kk : lw_G Zf k q o b nc ns i) : Zf (nc + 1) (ns + 6) (wd k q v r (ow k o f)) [some (.ref b), some (.ref (q 0)), some (.ref (q 22)), some (.ref o), some (.int (nI i)), some (.int (nI kc)), L6] 449 [.int y] := by
  obtain ⟨hl, X, hsld, hslen, hLn⟩ := K
  have E := X.E (nc := nc + 1) (ns := ns + 6) hnc hns
  refine zd_istore E (pc := 449) d_law_449 (by decide) ?_
  refine zd_aload_n E (pc := 451) d_law_451 rfl ?_
  refine zd_callVR E (pc := 452) d_law_452 kc_L_61 rfl ki_M_thrown ke_M_thrown 22 rfl rfl (c_M_thrown l D) ⟨by decide, by decide⟩ rfl (Nat.le_of_ble_eq_true rfl) (fun v1 ws1 hv1 => ?_)
  obtain ⟨rfl, rfl⟩ := hv1
  rw [h10]
  refine zd_iload E (pc := 455) d_law_455 rfl ?_
  refine zd_nc_eq E (pc := 457) 462 d_law_457 (by decide) ((by omega)) ((by omega)) (fun h => ?_) (fun h => ?_)
  · refine zd_iload E (pc := 462) d_law_462 rfl ?_
    refine zd_if_ne E (pc := 464) 486 d_law_464 (by decide) (fun h5 => ?_) (fun h5 => ?_)
    · refine zd_goto E (pc := 486) 1010 d_law_486 (by decide) ?_
      exact kk v r f _ _ I
    · have hk0 : kc = 0 := nI_ne (Classical.not_not.mp h5) (by omega)
      refine zd_aload_n E (pc := 467) d_law_467 rfl ?_
      refine zd_iconst E (pc := 468) (v := (nI 0)) d_law_468 (by decide) ?_
      refine zd_lald E (pc := 469) d_law_469 34 rfl (t0 := 3) rfl ?_
      rw [hval hk0]
      refine zd_iload E (pc := 470) d_law_470 rfl ?_
      refine zd_if_eq E (pc := 472) 479 d_law_472 (by decide) (fun hy => ?_) (fun hy => ?_)
      · rw [if_pos hy]
        refine zd_lconst E (pc := 479) (v := 0) d_law_479 (by decide) ?_
        refine zd_lcmp E (pc := 480) d_law_480 ?_
        refine zd_if_eq E (pc := 481) 486 d_law_481 (by decide) (fun h6 => ?_) (fun h6 => ?_)
        · refine zd_goto E (pc := 486) 1010 d_law_486 (by decide) ?_
          exact kk v r f _ _ I
        · exact absurd (lg_cmp0.mpr rfl) h6
      · rw [if_neg hy]
        refine zd_lconst E (pc := 475) (v := 1) d_law_475 (by decide) ?_
        refine zd_goto E (pc := 476) 480 d_law_476 (by decide) ?_
        refine zd_lcmp E (pc := 480) d_law_480 ?_
        refine zd_if_eq E (pc := 481) 486 d_law_481 (by decide) (fun h6 => ?_) (fun h6 => ?_)
        · refine zd_goto E (pc := 486) 1010 d_law_486 (by decide) ?_
          exact kk v r f _ _ I
        · exact absurd (lg_cmp0.mpr rfl) h6
  · exact absurd rfl h
set_option maxRecDepth 100000 in
set_option maxHeartbeats 4000000 in
theorem lw_t6 (K : lw_K Zf l D k b Ln xs) (hnc : nc + 1 ≤ 601024) (hns : ns + 6 ≤ 7293034) {y : Int32} {kc : Nat} (hk : kc < 10) (h10 : v 10 = nI kc) (hval : kc = 0 → f 0 = (if y = 0 then 0 else 1)) (I : sy_I v r) (kk : lw_G Zf k q o b nc ns i) : Zf (nc + 1) (ns + 6) (wd k q v r (ow k o f)) [some (.ref b), some (.ref (q 0)), some (.ref (q 22)), some (.ref o), some (.int (nI i)), some (.int (nI kc)), L6] 512 [.int y] := by
  obtain ⟨hl, X, hsld, hslen, hLn⟩ := K
  have E := X.E (nc := nc + 1) (ns := ns + 6) hnc hns
  refine zd_istore E (pc := 512) d_law_512 (by decide) ?_
  refine zd_aload_n E (pc := 514) d_law_514 rfl ?_
  refine zd_callVR E (pc := 515) d_law_515 kc_L_61 rfl ki_M_thrown ke_M_thrown 22 rfl rfl (c_M_thrown l D) ⟨by decide, by decide⟩ rfl (Nat.le_of_ble_eq_true rfl) (fun v1 ws1 hv1 => ?_)
  obtain ⟨rfl, rfl⟩ := hv1
  rw [h10]
  refine zd_iload E (pc := 518) d_law_518 rfl ?_
  refine zd_nc_eq E (pc := 520) 525 d_law_520 (by decide) ((by omega)) ((by omega)) (fun h => ?_) (fun h => ?_)
  · refine zd_iload E (pc := 525) d_law_525 rfl ?_
    refine zd_if_ne E (pc := 527) 549 d_law_527 (by decide) (fun h5 => ?_) (fun h5 => ?_)
    · refine zd_goto E (pc := 549) 1010 d_law_549 (by decide) ?_
      exact kk v r f _ _ I
    · have hk0 : kc = 0 := nI_ne (Classical.not_not.mp h5) (by omega)
      refine zd_aload_n E (pc := 530) d_law_530 rfl ?_
      refine zd_iconst E (pc := 531) (v := (nI 0)) d_law_531 (by decide) ?_
      refine zd_lald E (pc := 532) d_law_532 34 rfl (t0 := 3) rfl ?_
      rw [hval hk0]
      refine zd_iload E (pc := 533) d_law_533 rfl ?_
      refine zd_if_eq E (pc := 535) 542 d_law_535 (by decide) (fun hy => ?_) (fun hy => ?_)
      · rw [if_pos hy]
        refine zd_lconst E (pc := 542) (v := 0) d_law_542 (by decide) ?_
        refine zd_lcmp E (pc := 543) d_law_543 ?_
        refine zd_if_eq E (pc := 544) 549 d_law_544 (by decide) (fun h6 => ?_) (fun h6 => ?_)
        · refine zd_goto E (pc := 549) 1010 d_law_549 (by decide) ?_
          exact kk v r f _ _ I
        · exact absurd (lg_cmp0.mpr rfl) h6
      · rw [if_neg hy]
        refine zd_lconst E (pc := 538) (v := 1) d_law_538 (by decide) ?_
        refine zd_goto E (pc := 539) 543 d_law_539 (by decide) ?_
        refine zd_lcmp E (pc := 543) d_law_543 ?_
        refine zd_if_eq E (pc := 544) 549 d_law_544 (by decide) (fun h6 => ?_) (fun h6 => ?_)
        · refine zd_goto E (pc := 549) 1010 d_law_549 (by decide) ?_
          exact kk v r f _ _ I
        · exact absurd (lg_cmp0.mpr rfl) h6
  · exact absurd rfl h
set_option maxRecDepth 100000 in
set_option maxHeartbeats 4000000 in
theorem lw_t11 (K : lw_K Zf l D k b Ln xs) (hnc : nc + 1 ≤ 601024) (hns : ns + 6 ≤ 7293034) {y : Int32} {kc : Nat} (hk : kc < 10) (h10 : v 10 = nI kc) (hval : kc = 0 → f 0 = (if y = 0 then 0 else 1)) (I : sy_I v r) (kk : lw_G Zf k q o b nc ns i) : Zf (nc + 1) (ns + 6) (wd k q v r (ow k o f)) [some (.ref b), some (.ref (q 0)), some (.ref (q 22)), some (.ref o), some (.int (nI i)), some (.int (nI kc)), L6] 651 [.int y] := by
  obtain ⟨hl, X, hsld, hslen, hLn⟩ := K
  have E := X.E (nc := nc + 1) (ns := ns + 6) hnc hns
  refine zd_istore E (pc := 651) d_law_651 (by decide) ?_
  refine zd_aload_n E (pc := 653) d_law_653 rfl ?_
  refine zd_callVR E (pc := 654) d_law_654 kc_L_61 rfl ki_M_thrown ke_M_thrown 22 rfl rfl (c_M_thrown l D) ⟨by decide, by decide⟩ rfl (Nat.le_of_ble_eq_true rfl) (fun v1 ws1 hv1 => ?_)
  obtain ⟨rfl, rfl⟩ := hv1
  rw [h10]
  refine zd_iload E (pc := 657) d_law_657 rfl ?_
  refine zd_nc_eq E (pc := 659) 664 d_law_659 (by decide) ((by omega)) ((by omega)) (fun h => ?_) (fun h => ?_)
  · refine zd_iload E (pc := 664) d_law_664 rfl ?_
    refine zd_if_ne E (pc := 666) 688 d_law_666 (by decide) (fun h5 => ?_) (fun h5 => ?_)
    · refine zd_goto E (pc := 688) 1010 d_law_688 (by decide) ?_
      exact kk v r f _ _ I
    · have hk0 : kc = 0 := nI_ne (Classical.not_not.mp h5) (by omega)
      refine zd_aload_n E (pc := 669) d_law_669 rfl ?_
      refine zd_iconst E (pc := 670) (v := (nI 0)) d_law_670 (by decide) ?_
      refine zd_lald E (pc := 671) d_law_671 34 rfl (t0 := 3) rfl ?_
      rw [hval hk0]
      refine zd_iload E (pc := 672) d_law_672 rfl ?_
      refine zd_if_eq E (pc := 674) 681 d_law_674 (by decide) (fun hy => ?_) (fun hy => ?_)
      · rw [if_pos hy]
        refine zd_lconst E (pc := 681) (v := 0) d_law_681 (by decide) ?_
        refine zd_lcmp E (pc := 682) d_law_682 ?_
        refine zd_if_eq E (pc := 683) 688 d_law_683 (by decide) (fun h6 => ?_) (fun h6 => ?_)
        · refine zd_goto E (pc := 688) 1010 d_law_688 (by decide) ?_
          exact kk v r f _ _ I
        · exact absurd (lg_cmp0.mpr rfl) h6
      · rw [if_neg hy]
        refine zd_lconst E (pc := 677) (v := 1) d_law_677 (by decide) ?_
        refine zd_goto E (pc := 678) 682 d_law_678 (by decide) ?_
        refine zd_lcmp E (pc := 682) d_law_682 ?_
        refine zd_if_eq E (pc := 683) 688 d_law_683 (by decide) (fun h6 => ?_) (fun h6 => ?_)
        · refine zd_goto E (pc := 688) 1010 d_law_688 (by decide) ?_
          exact kk v r f _ _ I
        · exact absurd (lg_cmp0.mpr rfl) h6
  · exact absurd rfl h
set_option maxRecDepth 100000 in
set_option maxHeartbeats 4000000 in
theorem lw_t12 (K : lw_K Zf l D k b Ln xs) (hnc : nc + 1 ≤ 601024) (hns : ns + 6 ≤ 7293034) {y : Int32} {kc : Nat} (hk : kc < 10) (h10 : v 10 = nI kc) (hval : kc = 0 → f 0 = y.toInt64) (I : sy_I v r) (kk : lw_G Zf k q o b nc ns i) : Zf (nc + 1) (ns + 6) (wd k q v r (ow k o f)) [some (.ref b), some (.ref (q 0)), some (.ref (q 22)), some (.ref o), some (.int (nI i)), some (.int (nI kc)), L6] 742 [.int y] := by
  obtain ⟨hl, X, hsld, hslen, hLn⟩ := K
  have E := X.E (nc := nc + 1) (ns := ns + 6) hnc hns
  refine zd_istore E (pc := 742) d_law_742 (by decide) ?_
  refine zd_aload_n E (pc := 744) d_law_744 rfl ?_
  refine zd_callVR E (pc := 745) d_law_745 kc_L_61 rfl ki_M_thrown ke_M_thrown 22 rfl rfl (c_M_thrown l D) ⟨by decide, by decide⟩ rfl (Nat.le_of_ble_eq_true rfl) (fun v1 ws1 hv1 => ?_)
  obtain ⟨rfl, rfl⟩ := hv1
  rw [h10]
  refine zd_iload E (pc := 748) d_law_748 rfl ?_
  refine zd_nc_eq E (pc := 750) 755 d_law_750 (by decide) ((by omega)) ((by omega)) (fun h => ?_) (fun h => ?_)
  · refine zd_iload E (pc := 755) d_law_755 rfl ?_
    refine zd_if_ne E (pc := 757) 772 d_law_757 (by decide) (fun h5 => ?_) (fun h5 => ?_)
    · refine zd_goto E (pc := 772) 1010 d_law_772 (by decide) ?_
      exact kk v r f _ _ I
    · have hk0 : kc = 0 := nI_ne (Classical.not_not.mp h5) (by omega)
      refine zd_aload_n E (pc := 760) d_law_760 rfl ?_
      refine zd_iconst E (pc := 761) (v := (nI 0)) d_law_761 (by decide) ?_
      refine zd_lald E (pc := 762) d_law_762 34 rfl (t0 := 3) rfl ?_
      rw [hval hk0]
      refine zd_iload E (pc := 763) d_law_763 rfl ?_
      refine zd_i2l E (pc := 765) d_law_765 ?_
      refine zd_lcmp E (pc := 766) d_law_766 ?_
      refine zd_if_eq E (pc := 767) 772 d_law_767 (by decide) (fun h6 => ?_) (fun h6 => ?_)
      · refine zd_goto E (pc := 772) 1010 d_law_772 (by decide) ?_
        exact kk v r f _ _ I
      · exact absurd (lg_cmp0.mpr rfl) h6
  · exact absurd rfl h
set_option maxRecDepth 100000 in
set_option maxHeartbeats 4000000 in
theorem lw_t16 (K : lw_K Zf l D k b Ln xs) (hnc : nc + 1 ≤ 601024) (hns : ns + 6 ≤ 7293034) {y : Int32} {kc : Nat} (hk : kc < 10) (h10 : v 10 = nI kc) (hval : kc = 0 → f 0 = (if y = 0 then 0 else 1)) (I : sy_I v r) (kk : lw_G Zf k q o b nc ns i) : Zf (nc + 1) (ns + 6) (wd k q v r (ow k o f)) [some (.ref b), some (.ref (q 0)), some (.ref (q 22)), some (.ref o), some (.int (nI i)), some (.int (nI kc)), L6] 877 [.int y] := by
  obtain ⟨hl, X, hsld, hslen, hLn⟩ := K
  have E := X.E (nc := nc + 1) (ns := ns + 6) hnc hns
  refine zd_istore E (pc := 877) d_law_877 (by decide) ?_
  refine zd_aload_n E (pc := 879) d_law_879 rfl ?_
  refine zd_callVR E (pc := 880) d_law_880 kc_L_61 rfl ki_M_thrown ke_M_thrown 22 rfl rfl (c_M_thrown l D) ⟨by decide, by decide⟩ rfl (Nat.le_of_ble_eq_true rfl) (fun v1 ws1 hv1 => ?_)
  obtain ⟨rfl, rfl⟩ := hv1
  rw [h10]
  refine zd_iload E (pc := 883) d_law_883 rfl ?_
  refine zd_nc_eq E (pc := 885) 890 d_law_885 (by decide) ((by omega)) ((by omega)) (fun h => ?_) (fun h => ?_)
  · refine zd_iload E (pc := 890) d_law_890 rfl ?_
    refine zd_if_ne E (pc := 892) 914 d_law_892 (by decide) (fun h5 => ?_) (fun h5 => ?_)
    · refine zd_goto E (pc := 914) 1010 d_law_914 (by decide) ?_
      exact kk v r f _ _ I
    · have hk0 : kc = 0 := nI_ne (Classical.not_not.mp h5) (by omega)
      refine zd_aload_n E (pc := 895) d_law_895 rfl ?_
      refine zd_iconst E (pc := 896) (v := (nI 0)) d_law_896 (by decide) ?_
      refine zd_lald E (pc := 897) d_law_897 34 rfl (t0 := 3) rfl ?_
      rw [hval hk0]
      refine zd_iload E (pc := 898) d_law_898 rfl ?_
      refine zd_if_eq E (pc := 900) 907 d_law_900 (by decide) (fun hy => ?_) (fun hy => ?_)
      · rw [if_pos hy]
        refine zd_lconst E (pc := 907) (v := 0) d_law_907 (by decide) ?_
        refine zd_lcmp E (pc := 908) d_law_908 ?_
        refine zd_if_eq E (pc := 909) 914 d_law_909 (by decide) (fun h6 => ?_) (fun h6 => ?_)
        · refine zd_goto E (pc := 914) 1010 d_law_914 (by decide) ?_
          exact kk v r f _ _ I
        · exact absurd (lg_cmp0.mpr rfl) h6
      · rw [if_neg hy]
        refine zd_lconst E (pc := 903) (v := 1) d_law_903 (by decide) ?_
        refine zd_goto E (pc := 904) 908 d_law_904 (by decide) ?_
        refine zd_lcmp E (pc := 908) d_law_908 ?_
        refine zd_if_eq E (pc := 909) 914 d_law_909 (by decide) (fun h6 => ?_) (fun h6 => ?_)
        · refine zd_goto E (pc := 914) 1010 d_law_914 (by decide) ?_
          exact kk v r f _ _ I
        · exact absurd (lg_cmp0.mpr rfl) h6
  · exact absurd rfl h
set_option maxRecDepth 100000 in
set_option maxHeartbeats 4000000 in
theorem lw_t17 (K : lw_K Zf l D k b Ln xs) (hnc : nc + 1 ≤ 601024) (hns : ns + 6 ≤ 7293034) {y : Int32} {kc : Nat} (hk : kc < 10) (h10 : v 10 = nI kc) (hval : kc = 0 → f 0 = y.toInt64) (I : sy_I v r) (kk : lw_G Zf k q o b nc ns i) : Zf (nc + 1) (ns + 6) (wd k q v r (ow k o f)) [some (.ref b), some (.ref (q 0)), some (.ref (q 22)), some (.ref o), some (.int (nI i)), some (.int (nI kc)), L6] 940 [.int y] := by
  obtain ⟨hl, X, hsld, hslen, hLn⟩ := K
  have E := X.E (nc := nc + 1) (ns := ns + 6) hnc hns
  refine zd_istore E (pc := 940) d_law_940 (by decide) ?_
  refine zd_aload_n E (pc := 942) d_law_942 rfl ?_
  refine zd_callVR E (pc := 943) d_law_943 kc_L_61 rfl ki_M_thrown ke_M_thrown 22 rfl rfl (c_M_thrown l D) ⟨by decide, by decide⟩ rfl (Nat.le_of_ble_eq_true rfl) (fun v1 ws1 hv1 => ?_)
  obtain ⟨rfl, rfl⟩ := hv1
  rw [h10]
  refine zd_iload E (pc := 946) d_law_946 rfl ?_
  refine zd_nc_eq E (pc := 948) 953 d_law_948 (by decide) ((by omega)) ((by omega)) (fun h => ?_) (fun h => ?_)
  · refine zd_iload E (pc := 953) d_law_953 rfl ?_
    refine zd_if_ne E (pc := 955) 970 d_law_955 (by decide) (fun h5 => ?_) (fun h5 => ?_)
    · refine zd_goto E (pc := 970) 1010 d_law_970 (by decide) ?_
      exact kk v r f _ _ I
    · have hk0 : kc = 0 := nI_ne (Classical.not_not.mp h5) (by omega)
      refine zd_aload_n E (pc := 958) d_law_958 rfl ?_
      refine zd_iconst E (pc := 959) (v := (nI 0)) d_law_959 (by decide) ?_
      refine zd_lald E (pc := 960) d_law_960 34 rfl (t0 := 3) rfl ?_
      rw [hval hk0]
      refine zd_iload E (pc := 961) d_law_961 rfl ?_
      refine zd_i2l E (pc := 963) d_law_963 ?_
      refine zd_lcmp E (pc := 964) d_law_964 ?_
      refine zd_if_eq E (pc := 965) 970 d_law_965 (by decide) (fun h6 => ?_) (fun h6 => ?_)
      · refine zd_goto E (pc := 970) 1010 d_law_970 (by decide) ?_
        exact kk v r f _ _ I
      · exact absurd (lg_cmp0.mpr rfl) h6
  · exact absurd rfl h
end LD
