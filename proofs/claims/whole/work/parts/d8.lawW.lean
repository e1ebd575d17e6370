set_option maxRecDepth 100000 in
set_option maxHeartbeats 400000 in
theorem lc_0 {X : ow_X} {cs sl : Nat} {Z : Nat → Nat} {b L i x m o B z : Nat} {xs : Nat → Int32} {S : Nat → Option ow_Sh} {I : ow_I} {V : Nat → Nat → Value} (W : lwE X Z b L xs) (hI : lwI Z x m o B S I V) (hB : B + 4000 < 2 ^ 29) (hi : i + 6 ≤ L) (hc : cs + 44 ≤ 601024) (hs : sl + 5596 ≤ 7293034) (tl : ∀ (S1 : Nat → Option ow_Sh) (I1 : ow_I) (V1 : Nat → Nat → Value) (z1 : Nat), lwI Z x m o (B + 4000) S1 I1 V1 → ow_W X (cs + 44) (sl + 5596) (S1, I1, V1, z1) 3148 (lwv b x m o i) []) : ow_W X cs sl (S, I, V, z) 316 (lwv b x m o i) [] := by
  obtain ⟨E, G, GS, hL⟩ := id W
  have hX := hI.2.2.1.1.1
  refine or_aload_n (j := 1) E rfl dL_law_316 ?_
  refine or_arg (j := 1) W rfl rfl dL_law_317 dL_law_318 dL_law_320 dL_law_321 dL_law_322 (by omega) ?_
  refine or_arg (j := 2) W rfl rfl dL_law_323 dL_law_324 dL_law_326 dL_law_327 dL_law_328 (by omega) ?_
  refine or_arg (j := 3) W rfl rfl dL_law_329 dL_law_330 dL_law_332 dL_law_333 dL_law_334 (by omega) ?_
  refine or_arg (j := 4) W rfl rfl dL_law_335 dL_law_336 dL_law_338 dL_law_339 dL_law_340 (by omega) ?_
  refine or_arg (j := 5) W rfl rfl dL_law_341 dL_law_342 dL_law_344 dL_law_345 dL_law_346 (by omega) ?_
  refine or_aload_n (j := 3) E rfl dL_law_347 ?_
  refine oy_S (st := []) [.ref x, .int (xs (i + 1)), .int (xs (i + 2)), .int (xs (i + 3)), .int (xs (i + 4)), .int (xs (i + 5)), .ref o] (wL_append (cA_append hI.1.1 hX) hI.1.1.1 (fun r h0 hk => wr_I hI.1.2.2.1 hk) (fun c' h1 h0 hk => by rw [wk_c hk] at h0 ⊢; exact tc_append.resolve_left (by omega))) E G lh_L_152 dL_law_348 rfl (by decide) (by decide) ⟨by omega, by omega⟩ (Nat.le_of_ble_eq_true rfl) (fun r h1 hk => ?_)
  obtain ⟨rfl, V1, z1, rfl, -, hv0, hvo⟩ := wK_I hk
  refine or_istore E dL_law_351 (by decide) ?_
  have hA := fA_append (x := x) (I := I) (a := (xs (i + 1))) (b := (xs (i + 2))) (c := (xs (i + 3))) (d := (xs (i + 4))) (e := (xs (i + 5))) 
  have hg := fA_gh hA
  have hJ := lw_J hI hg
  have hr := r_append (a := (xs (i + 1))) (b := (xs (i + 2))) (c := (xs (i + 3))) (d := (xs (i + 4))) (e := (xs (i + 5))) hJ
  refine or_ghs (gh_S (I := I) hI.1.1) ?_
  refine or_aload_n (j := 2) E rfl dL_law_353 ?_
  refine or_arg (j := 1) W rfl rfl dL_law_354 dL_law_355 dL_law_357 dL_law_358 dL_law_359 (by omega) ?_
  refine or_arg (j := 2) W rfl rfl dL_law_360 dL_law_361 dL_law_363 dL_law_364 dL_law_365 (by omega) ?_
  refine or_arg (j := 3) W rfl rfl dL_law_366 dL_law_367 dL_law_369 dL_law_370 dL_law_371 (by omega) ?_
  refine or_arg (j := 4) W rfl rfl dL_law_372 dL_law_373 dL_law_375 dL_law_376 dL_law_377 (by omega) ?_
  refine or_arg (j := 5) W rfl rfl dL_law_378 dL_law_379 dL_law_381 dL_law_382 dL_law_383 (by omega) ?_
  refine or_cV5r (cM_append hI.1.2.1 (lw_5 hJ).1 (lw_5 hJ).2) E lk_L_157 dL_law_384 hI.1.2.1.1 rfl rfl (by decide) (by decide) ⟨by omega, by omega⟩ (Nat.le_of_ble_eq_true rfl) ?_
  refine or_istore E dL_law_387 (by decide) ?_
  have hst := lw_step hI hg (RR_up (RR_gh hr.1 hI.2.2.1.1.2) (show B ≤ B + 4000 by omega)) (fM_append (a := (xs (i + 1))) (b := (xs (i + 2))) (c := (xs (i + 3))) (d := (xs (i + 4))) (e := (xs (i + 5)))) (lw_V hI (fun b hb => hvo b (by omega))) (lw_V2 hI (fun b hb => hvo b (by omega)))
  refine or_fin W hI.1.2.1 hr.2.1 (kx_lt (by decide)) hI.1.2.2.1 (fun hz => by rw [hv0 (kx_z hz), hr.2.2 (kx_z hz)]) rfl rfl rfl rfl (by omega) (by omega) dL_law_389 dL_law_390 dL_law_393 dL_law_395 dL_law_400 dL_law_402 dL_law_405 dL_law_406 dL_law_407 dL_law_408 dL_law_410 dL_law_411 dL_law_412 ?_
  refine or_goto 3148 E dL_law_417 rfl ?_
  refine or_lv (lwv b x m o i) rfl ?_
  exact or_wd (by omega) (by omega) (tl _ _ _ _ hst)
set_option maxRecDepth 100000 in
set_option maxHeartbeats 400000 in
theorem lc_1 {X : ow_X} {cs sl : Nat} {Z : Nat → Nat} {b L i x m o B z : Nat} {xs : Nat → Int32} {S : Nat → Option ow_Sh} {I : ow_I} {V : Nat → Nat → Value} (W : lwE X Z b L xs) (hI : lwI Z x m o B S I V) (hB : B + 4000 < 2 ^ 29) (hi : i + 6 ≤ L) (hc : cs + 44 ≤ 601024) (hs : sl + 5596 ≤ 7293034) (tl : ∀ (S1 : Nat → Option ow_Sh) (I1 : ow_I) (V1 : Nat → Nat → Value) (z1 : Nat), lwI Z x m o (B + 4000) S1 I1 V1 → ow_W X (cs + 44) (sl + 5596) (S1, I1, V1, z1) 3148 (lwv b x m o i) []) : ow_W X cs sl (S, I, V, z) 420 (lwv b x m o i) [] := by
  obtain ⟨E, G, GS, hL⟩ := id W
  have hX := hI.2.2.1.1.1
  refine or_aload_n (j := 1) E rfl dL_law_420 ?_
  refine or_arg (j := 1) W rfl rfl dL_law_421 dL_law_422 dL_law_424 dL_law_425 dL_law_426 (by omega) ?_
  refine or_aload_n (j := 3) E rfl dL_law_427 ?_
  refine oy_S (st := []) [.ref x, .int (xs (i + 1)), .ref o] (wL_truncate (cA_truncate hI.1.1) hI.1.1.1 (fun r h0 hk => wr_I hI.1.2.2.1 hk) (fun c' h1 h0 hk => by rw [wk_c hk] at h0 ⊢; exact tc_truncate.resolve_left (by omega))) E G lh_L_161 dL_law_428 rfl (by decide) (by decide) ⟨by omega, by omega⟩ (Nat.le_of_ble_eq_true rfl) (fun r h1 hk => ?_)
  obtain ⟨rfl, V1, z1, rfl, -, hv0, hvo⟩ := wK_I hk
  refine or_istore E dL_law_431 (by decide) ?_
  have hA := fA_truncate (x := x) (I := I) (n := (xs (i + 1))) 
  have hg := fA_gh hA
  have hJ := lw_J hI hg
  have hr := r_truncate (t := (xs (i + 1))) hJ
  refine or_ghs (gh_S (I := I) hI.1.1) ?_
  refine or_aload_n (j := 2) E rfl dL_law_433 ?_
  refine or_arg (j := 1) W rfl rfl dL_law_434 dL_law_435 dL_law_437 dL_law_438 dL_law_439 (by omega) ?_
  refine or_cV1r (cM_truncate hI.1.2.1) E lk_L_164 dL_law_440 hI.1.2.1.1 rfl rfl (by decide) (by decide) ⟨by omega, by omega⟩ (Nat.le_of_ble_eq_true rfl) ?_
  refine or_istore E dL_law_443 (by decide) ?_
  have hst := lw_step hI hg (RR_up (RR_gh hr.1 hI.2.2.1.1.2) (show B ≤ B + 4000 by omega)) (fM_truncate (a := (xs (i + 1)))) (lw_V hI (fun b hb => hvo b (by omega))) (lw_V2 hI (fun b hb => hvo b (by omega)))
  refine or_fin W hI.1.2.1 hr.2.1 (kx_lt (by decide)) hI.1.2.2.1 (fun hz => by rw [hv0 (kx_z hz), hr.2.2 (kx_z hz)]) rfl rfl rfl rfl (by omega) (by omega) dL_law_445 dL_law_446 dL_law_449 dL_law_451 dL_law_456 dL_law_458 dL_law_461 dL_law_462 dL_law_463 dL_law_464 dL_law_466 dL_law_467 dL_law_468 ?_
  refine or_goto 3148 E dL_law_473 rfl ?_
  refine or_lv (lwv b x m o i) rfl ?_
  exact or_wd (by omega) (by omega) (tl _ _ _ _ hst)
set_option maxRecDepth 100000 in
set_option maxHeartbeats 400000 in
theorem lc_4 {X : ow_X} {cs sl : Nat} {Z : Nat → Nat} {b L i x m o B z : Nat} {xs : Nat → Int32} {S : Nat → Option ow_Sh} {I : ow_I} {V : Nat → Nat → Value} (W : lwE X Z b L xs) (hI : lwI Z x m o B S I V) (hB : B + 4000 < 2 ^ 29) (hi : i + 6 ≤ L) (hc : cs + 44 ≤ 601024) (hs : sl + 5596 ≤ 7293034) (tl : ∀ (S1 : Nat → Option ow_Sh) (I1 : ow_I) (V1 : Nat → Nat → Value) (z1 : Nat), lwI Z x m o (B + 4000) S1 I1 V1 → ow_W X (cs + 44) (sl + 5596) (S1, I1, V1, z1) 3148 (lwv b x m o i) []) : ow_W X cs sl (S, I, V, z) 502 (lwv b x m o i) [] := by
  obtain ⟨E, G, GS, hL⟩ := id W
  have hX := hI.2.2.1.1.1
  refine or_aload_n (j := 1) E rfl dL_law_502 ?_
  refine or_aload_n (j := 3) E rfl dL_law_503 ?_
  refine oy_S (st := []) [.ref x, .ref o] (wL_loadSetup (cA_loadSetup hI.1.1 hX) hI.1.1.1 (fun r h0 hk => wr_I hI.1.2.2.1 hk) (fun c' h1 h0 hk => by rw [wk_c hk] at h0 ⊢; exact tc_loadSetup.resolve_left (by omega))) E G lh_L_173 dL_law_504 rfl (by decide) (by decide) ⟨by omega, by omega⟩ (Nat.le_of_ble_eq_true rfl) (fun r h1 hk => ?_)
  obtain ⟨rfl, V1, z1, rfl, -, hv0, hvo⟩ := wK_I hk
  refine or_istore E dL_law_507 (by decide) ?_
  have hA := fA_loadSetup (x := x) (I := I) hX hI.2.2.1.1.2
  have hg := fA_gh hA
  have hJ := lw_J hI hg
  have hr := r_loadSetup hJ
  refine or_ghs (gh_S (I := I) hI.1.1) ?_
  refine or_aload_n (j := 2) E rfl dL_law_509 ?_
  refine or_cV0r (cM_loadSetup hI.1.2.1 (lw_5 hJ).1 (lw_5 hJ).2 (lw_o hJ).1.1 (lw_o hJ).1.2 (lw_o hJ).2.1 (lw_o hJ).2.2) E lk_L_176 dL_law_510 hI.1.2.1.1 rfl rfl (by decide) (by decide) ⟨by omega, by omega⟩ (Nat.le_of_ble_eq_true rfl) ?_
  refine or_istore E dL_law_513 (by decide) ?_
  have hst := lw_step hI hg (RR_up (RR_gh hr.1 hI.2.2.1.1.2) (show B ≤ B + 4000 by omega)) fM_loadSetup (lw_V hI (fun b hb => hvo b (by omega))) (lw_V2 hI (fun b hb => hvo b (by omega)))
  refine or_fin W hI.1.2.1 hr.2.1 (kx_lt (by decide)) hI.1.2.2.1 (fun hz => by rw [hv0 (kx_z hz), hr.2.2 (kx_z hz)]) rfl rfl rfl rfl (by omega) (by omega) dL_law_515 dL_law_516 dL_law_519 dL_law_521 dL_law_526 dL_law_528 dL_law_531 dL_law_532 dL_law_533 dL_law_534 dL_law_536 dL_law_537 dL_law_538 ?_
  refine or_goto 3148 E dL_law_543 rfl ?_
  refine or_lv (lwv b x m o i) rfl ?_
  exact or_wd (by omega) (by omega) (tl _ _ _ _ hst)
set_option maxRecDepth 100000 in
set_option maxHeartbeats 400000 in
theorem lc_5 {X : ow_X} {cs sl : Nat} {Z : Nat → Nat} {b L i x m o B z : Nat} {xs : Nat → Int32} {S : Nat → Option ow_Sh} {I : ow_I} {V : Nat → Nat → Value} (W : lwE X Z b L xs) (hI : lwI Z x m o B S I V) (hB : B + 4000 < 2 ^ 29) (hi : i + 6 ≤ L) (hc : cs + 44 ≤ 601024) (hs : sl + 5596 ≤ 7293034) (tl : ∀ (S1 : Nat → Option ow_Sh) (I1 : ow_I) (V1 : Nat → Nat → Value) (z1 : Nat), lwI Z x m o (B + 4000) S1 I1 V1 → ow_W X (cs + 44) (sl + 5596) (S1, I1, V1, z1) 3148 (lwv b x m o i) []) : ow_W X cs sl (S, I, V, z) 546 (lwv b x m o i) [] := by
  obtain ⟨E, G, GS, hL⟩ := id W
  have hX := hI.2.2.1.1.1
  refine or_aload_n (j := 1) E rfl dL_law_546 ?_
  refine or_aload_n (j := 3) E rfl dL_law_547 ?_
  refine oy_S (st := []) [.ref x, .ref o] (wL_runScript (cA_runScript (V0 := V) hI.1.1 hX hI.2.2.1.1.2 (lw_ve hI)) hI.1.1.1 (fun r h0 hk => wr_I hI.1.2.2.1 hk) (fun c' h1 h0 hk => by rw [wk_c hk] at h0 ⊢; exact tc_runScript.resolve_left (by omega))) E G lh_L_177 dL_law_548 rfl (by decide) (by decide) ⟨by omega, by omega⟩ (Nat.le_of_ble_eq_true rfl) (fun r h1 hk => ?_)
  obtain ⟨rfl, V1, z1, rfl, -, hv0, hvo⟩ := wK_I hk
  refine or_istore E dL_law_551 (by decide) ?_
  have hA : fA x I (A_runScript x I).2.2 := fA_runScript hX
  have hg := hA
  have hJ := lw_J hI hg
  have hr := r_runScript hJ (by omega)
  refine or_aload_n (j := 2) E rfl dL_law_553 ?_
  refine or_cV0r (cM_runScript hI.1.2.1 (lw_5 hJ).1 (lw_5 hJ).2 (lw_o hJ).1.1 (lw_o hJ).1.2 (lw_o hJ).2.1 (lw_o hJ).2.2 hJ.2.1.2.1) E lk_L_179 dL_law_554 hI.1.2.1.1 rfl rfl (by decide) (by decide) ⟨by omega, by omega⟩ (Nat.le_of_ble_eq_true rfl) ?_
  refine or_istore E dL_law_557 (by decide) ?_
  have hst := lw_step (V1 := V1) hI hg (RR_up hr.1 (show B + 4000 ≤ B + 4000 by omega)) fM_runScript (fun i hi => by rw [hvo _ (by have := hI.2.1; omega)]; unfold ve_f; rw [if_pos ⟨rfl, ve_ic hi⟩]) (by rw [hvo _ (by have := hI.2.1; omega)]; unfold ve_f; rw [if_neg (fun h => by have := h.2; unfold ve_c at this; have := of_decide_eq_true this; omega)])
  refine or_fin W hI.1.2.1 hr.2.1 (kx_lt (by decide)) hI.1.2.2.1 (fun hz => by rw [hv0 (kx_z hz), hr.2.2 (kx_z hz)]) rfl rfl rfl rfl (by omega) (by omega) dL_law_559 dL_law_560 dL_law_563 dL_law_565 dL_law_570 dL_law_572 dL_law_575 dL_law_576 dL_law_577 dL_law_578 dL_law_580 dL_law_581 dL_law_582 ?_
  refine or_goto 3148 E dL_law_587 rfl ?_
  refine or_lv (lwv b x m o i) rfl ?_
  exact or_wd (by omega) (by omega) (tl _ _ _ _ hst)
set_option maxRecDepth 100000 in
set_option maxHeartbeats 400000 in
theorem lc_6 {X : ow_X} {cs sl : Nat} {Z : Nat → Nat} {b L i x m o B z : Nat} {xs : Nat → Int32} {S : Nat → Option ow_Sh} {I : ow_I} {V : Nat → Nat → Value} (W : lwE X Z b L xs) (hI : lwI Z x m o B S I V) (hB : B + 4000 < 2 ^ 29) (hi : i + 6 ≤ L) (hc : cs + 44 ≤ 601024) (hs : sl + 5596 ≤ 7293034) (tl : ∀ (S1 : Nat → Option ow_Sh) (I1 : ow_I) (V1 : Nat → Nat → Value) (z1 : Nat), lwI Z x m o (B + 4000) S1 I1 V1 → ow_W X (cs + 44) (sl + 5596) (S1, I1, V1, z1) 3148 (lwv b x m o i) []) : ow_W X cs sl (S, I, V, z) 590 (lwv b x m o i) [] := by
  obtain ⟨E, G, GS, hL⟩ := id W
  have hX := hI.2.2.1.1.1
  refine or_aload_n (j := 1) E rfl dL_law_590 ?_
  refine or_arg (j := 1) W rfl rfl dL_law_591 dL_law_592 dL_law_594 dL_law_595 dL_law_596 (by omega) ?_
  refine or_aload_n (j := 3) E rfl dL_law_597 ?_
  refine oy_S (st := []) [.ref x, .int (xs (i + 1)), .ref o] (wL_nod (cA_nod hI.1.1 hX) hI.1.1.1 (fun r h0 hk => wr_I hI.1.2.2.1 hk) (fun c' h1 h0 hk => by rw [wk_c hk] at h0 ⊢; exact tc_nod.resolve_left (by omega))) E G lh_L_180 dL_law_598 rfl (by decide) (by decide) ⟨by omega, by omega⟩ (Nat.le_of_ble_eq_true rfl) (fun r h1 hk => ?_)
  obtain ⟨rfl, V1, z1, rfl, -, hv0, hvo⟩ := wK_I hk
  refine or_istore E dL_law_601 (by decide) ?_
  have hA := fA_nod (x := x) (I := I) (b := (xs (i + 1))) hX
  have hg := fA_gh hA
  have hJ := lw_J hI hg
  have hr := r_nod (b := (xs (i + 1))) hJ
  refine or_ghs (gh_S (I := I) hI.1.1) ?_
  refine or_aload_n (j := 2) E rfl dL_law_603 ?_
  refine or_arg (j := 1) W rfl rfl dL_law_604 dL_law_605 dL_law_607 dL_law_608 dL_law_609 (by omega) ?_
  refine or_cV1r (cM_nod hI.1.2.1 hJ.2.1.2.1 (lw_o hJ).1.1 (lw_o hJ).1.2 (lw_o hJ).2.1 (lw_o hJ).2.2) E lk_L_182 dL_law_610 hI.1.2.1.1 rfl rfl (by decide) (by decide) ⟨by omega, by omega⟩ (Nat.le_of_ble_eq_true rfl) ?_
  refine or_istore E dL_law_613 (by decide) ?_
  have hst := lw_step hI hg (RR_up (RR_gh hr.1 hI.2.2.1.1.2) (show B ≤ B + 4000 by omega)) (fM_nod (a := (xs (i + 1)))) (lw_V hI (fun b hb => hvo b (by omega))) (lw_V2 hI (fun b hb => hvo b (by omega)))
  refine or_fin W hI.1.2.1 hr.2.1 (kx_lt (by decide)) hI.1.2.2.1 (fun hz => by rw [hv0 (kx_z hz), hr.2.2 (kx_z hz)]) rfl rfl rfl rfl (by omega) (by omega) dL_law_615 dL_law_616 dL_law_619 dL_law_621 dL_law_626 dL_law_628 dL_law_631 dL_law_632 dL_law_633 dL_law_634 dL_law_636 dL_law_637 dL_law_638 ?_
  refine or_goto 3148 E dL_law_643 rfl ?_
  refine or_lv (lwv b x m o i) rfl ?_
  exact or_wd (by omega) (by omega) (tl _ _ _ _ hst)
set_option maxRecDepth 100000 in
set_option maxHeartbeats 400000 in
theorem lc_7 {X : ow_X} {cs sl : Nat} {Z : Nat → Nat} {b L i x m o B z : Nat} {xs : Nat → Int32} {S : Nat → Option ow_Sh} {I : ow_I} {V : Nat → Nat → Value} (W : lwE X Z b L xs) (hI : lwI Z x m o B S I V) (hB : B + 4000 < 2 ^ 29) (hi : i + 6 ≤ L) (hc : cs + 44 ≤ 601024) (hs : sl + 5596 ≤ 7293034) (tl : ∀ (S1 : Nat → Option ow_Sh) (I1 : ow_I) (V1 : Nat → Nat → Value) (z1 : Nat), lwI Z x m o (B + 4000) S1 I1 V1 → ow_W X (cs + 44) (sl + 5596) (S1, I1, V1, z1) 3148 (lwv b x m o i) []) : ow_W X cs sl (S, I, V, z) 646 (lwv b x m o i) [] := by
  obtain ⟨E, G, GS, hL⟩ := id W
  have hX := hI.2.2.1.1.1
  refine or_aload_n (j := 1) E rfl dL_law_646 ?_
  refine or_arg (j := 1) W rfl rfl dL_law_647 dL_law_648 dL_law_650 dL_law_651 dL_law_652 (by omega) ?_
  refine or_aload_n (j := 3) E rfl dL_law_653 ?_
  refine oy_S (st := []) [.ref x, .int (xs (i + 1)), .ref o] (wL_passMinutes (cA_passMinutes hI.1.1 hX) hI.1.1.1 (fun r h0 hk => wr_I hI.1.2.2.1 hk) (fun c' h1 h0 hk => by rw [wk_c hk] at h0 ⊢; exact tc_passMinutes.resolve_left (by omega))) E G lh_L_183 dL_law_654 rfl (by decide) (by decide) ⟨by omega, by omega⟩ (Nat.le_of_ble_eq_true rfl) (fun r h1 hk => ?_)
  obtain ⟨rfl, V1, z1, rfl, -, hv0, hvo⟩ := wK_I hk
  refine or_istore E dL_law_657 (by decide) ?_
  have hA := fA_passMinutes (x := x) (I := I) (n := (xs (i + 1))) hX
  have hg := fA_gh hA
  have hJ := lw_J hI hg
  have hr := r_passMinutes (n := (xs (i + 1))) hJ (by omega)
  refine or_ghs (gh_S (I := I) hI.1.1) ?_
  refine or_aload_n (j := 2) E rfl dL_law_659 ?_
  refine or_arg (j := 1) W rfl rfl dL_law_660 dL_law_661 dL_law_663 dL_law_664 dL_law_665 (by omega) ?_
  refine or_cV1r (cM_passMinutes hI.1.2.1 hJ.2.1.2.1 (lw_o hJ).1.1 (lw_o hJ).1.2 (lw_o hJ).2.1 (lw_o hJ).2.2) E lk_L_185 dL_law_666 hI.1.2.1.1 rfl rfl (by decide) (by decide) ⟨by omega, by omega⟩ (Nat.le_of_ble_eq_true rfl) ?_
  refine or_istore E dL_law_669 (by decide) ?_
  have hst := lw_step hI hg (RR_up (RR_gh hr.1 hI.2.2.1.1.2) (show B + 200 ≤ B + 4000 by omega)) (fM_passMinutes (a := (xs (i + 1)))) (lw_V hI (fun b hb => hvo b (by omega))) (lw_V2 hI (fun b hb => hvo b (by omega)))
  refine or_fin W hI.1.2.1 hr.2.1 (kx_lt (by decide)) hI.1.2.2.1 (fun hz => by rw [hv0 (kx_z hz), hr.2.2 (kx_z hz)]) rfl rfl rfl rfl (by omega) (by omega) dL_law_671 dL_law_672 dL_law_675 dL_law_677 dL_law_682 dL_law_684 dL_law_687 dL_law_688 dL_law_689 dL_law_690 dL_law_692 dL_law_693 dL_law_694 ?_
  refine or_goto 3148 E dL_law_699 rfl ?_
  refine or_lv (lwv b x m o i) rfl ?_
  exact or_wd (by omega) (by omega) (tl _ _ _ _ hst)
set_option maxRecDepth 100000 in
set_option maxHeartbeats 400000 in
theorem lc_8 {X : ow_X} {cs sl : Nat} {Z : Nat → Nat} {b L i x m o B z : Nat} {xs : Nat → Int32} {S : Nat → Option ow_Sh} {I : ow_I} {V : Nat → Nat → Value} (W : lwE X Z b L xs) (hI : lwI Z x m o B S I V) (hB : B + 4000 < 2 ^ 29) (hi : i + 6 ≤ L) (hc : cs + 44 ≤ 601024) (hs : sl + 5596 ≤ 7293034) (tl : ∀ (S1 : Nat → Option ow_Sh) (I1 : ow_I) (V1 : Nat → Nat → Value) (z1 : Nat), lwI Z x m o (B + 4000) S1 I1 V1 → ow_W X (cs + 44) (sl + 5596) (S1, I1, V1, z1) 3148 (lwv b x m o i) []) : ow_W X cs sl (S, I, V, z) 702 (lwv b x m o i) [] := by
  obtain ⟨E, G, GS, hL⟩ := id W
  have hX := hI.2.2.1.1.1
  refine or_aload_n (j := 1) E rfl dL_law_702 ?_
  refine or_arg (j := 1) W rfl rfl dL_law_703 dL_law_704 dL_law_706 dL_law_707 dL_law_708 (by omega) ?_
  refine or_arg (j := 2) W rfl rfl dL_law_709 dL_law_710 dL_law_712 dL_law_713 dL_law_714 (by omega) ?_
  refine or_arg (j := 3) W rfl rfl dL_law_715 dL_law_716 dL_law_718 dL_law_719 dL_law_720 (by omega) ?_
  refine or_aload_n (j := 3) E rfl dL_law_721 ?_
  refine oy_S (st := []) [.ref x, .int (xs (i + 1)), .int (xs (i + 2)), .int (xs (i + 3)), .ref o] (wL_addBarrel (cA_addBarrel hI.1.1 hX) hI.1.1.1 (fun r h0 hk => wr_I hI.1.2.2.1 hk) (fun c' h1 h0 hk => by rw [wk_c hk] at h0 ⊢; exact tc_addBarrel.resolve_left (by omega))) E G lh_L_186 dL_law_722 rfl (by decide) (by decide) ⟨by omega, by omega⟩ (Nat.le_of_ble_eq_true rfl) (fun r h1 hk => ?_)
  obtain ⟨rfl, V1, z1, rfl, -, hv0, hvo⟩ := wK_I hk
  refine or_istore E dL_law_725 (by decide) ?_
  have hA := fA_addBarrel (x := x) (I := I) (r := (xs (i + 1))) (n := (xs (i + 2))) (l := (xs (i + 3))) hX
  have hg := fA_gh hA
  have hJ := lw_J hI hg
  have hr := r_addBarrel (r := (xs (i + 1))) (e := (xs (i + 2))) (l := (xs (i + 3))) hJ
  refine or_ghs (gh_S (I := I) hI.1.1) ?_
  refine or_aload_n (j := 2) E rfl dL_law_727 ?_
  refine or_arg (j := 1) W rfl rfl dL_law_728 dL_law_729 dL_law_731 dL_law_732 dL_law_733 (by omega) ?_
  refine or_arg (j := 2) W rfl rfl dL_law_734 dL_law_735 dL_law_737 dL_law_738 dL_law_739 (by omega) ?_
  refine or_arg (j := 3) W rfl rfl dL_law_740 dL_law_741 dL_law_743 dL_law_744 dL_law_745 (by omega) ?_
  refine or_cV3r (cM_addBarrel hI.1.2.1 hJ.2.1.2.1 (lw_o hJ).1.1 (lw_o hJ).1.2 (lw_o hJ).2.1 (lw_o hJ).2.2) E lk_L_189 dL_law_746 hI.1.2.1.1 rfl rfl (by decide) (by decide) ⟨by omega, by omega⟩ (Nat.le_of_ble_eq_true rfl) ?_
  refine or_istore E dL_law_749 (by decide) ?_
  have hst := lw_step hI hg (RR_up (RR_gh hr.1 hI.2.2.1.1.2) (show B ≤ B + 4000 by omega)) (fM_addBarrel (a := (xs (i + 1))) (b := (xs (i + 2))) (c := (xs (i + 3)))) (lw_V hI (fun b hb => hvo b (by omega))) (lw_V2 hI (fun b hb => hvo b (by omega)))
  refine or_fin W hI.1.2.1 hr.2.1 (kx_lt (by decide)) hI.1.2.2.1 (fun hz => by rw [hv0 (kx_z hz), hr.2.2 (kx_z hz)]) rfl rfl rfl rfl (by omega) (by omega) dL_law_751 dL_law_752 dL_law_755 dL_law_757 dL_law_762 dL_law_764 dL_law_767 dL_law_768 dL_law_769 dL_law_770 dL_law_772 dL_law_773 dL_law_774 ?_
  refine or_goto 3148 E dL_law_779 rfl ?_
  refine or_lv (lwv b x m o i) rfl ?_
  exact or_wd (by omega) (by omega) (tl _ _ _ _ hst)
set_option maxRecDepth 100000 in
set_option maxHeartbeats 400000 in
theorem lc_9 {X : ow_X} {cs sl : Nat} {Z : Nat → Nat} {b L i x m o B z : Nat} {xs : Nat → Int32} {S : Nat → Option ow_Sh} {I : ow_I} {V : Nat → Nat → Value} (W : lwE X Z b L xs) (hI : lwI Z x m o B S I V) (hB : B + 4000 < 2 ^ 29) (hi : i + 6 ≤ L) (hc : cs + 44 ≤ 601024) (hs : sl + 5596 ≤ 7293034) (tl : ∀ (S1 : Nat → Option ow_Sh) (I1 : ow_I) (V1 : Nat → Nat → Value) (z1 : Nat), lwI Z x m o (B + 4000) S1 I1 V1 → ow_W X (cs + 44) (sl + 5596) (S1, I1, V1, z1) 3148 (lwv b x m o i) []) : ow_W X cs sl (S, I, V, z) 782 (lwv b x m o i) [] := by
  obtain ⟨E, G, GS, hL⟩ := id W
  have hX := hI.2.2.1.1.1
  refine or_aload_n (j := 1) E rfl dL_law_782 ?_
  refine or_arg (j := 1) W rfl rfl dL_law_783 dL_law_784 dL_law_786 dL_law_787 dL_law_788 (by omega) ?_
  refine or_arg (j := 2) W rfl rfl dL_law_789 dL_law_790 dL_law_792 dL_law_793 dL_law_794 (by omega) ?_
  refine or_aload_n (j := 3) E rfl dL_law_795 ?_
  refine oy_S (st := []) [.ref x, .int (xs (i + 1)), .int (xs (i + 2)), .ref o] (wL_split (cA_split hI.1.1 hX) hI.1.1.1 (fun r h0 hk => wr_I hI.1.2.2.1 hk) (fun c' h1 h0 hk => by rw [wk_c hk] at h0 ⊢; exact tc_split.resolve_left (by omega))) E G lh_L_190 dL_law_796 rfl (by decide) (by decide) ⟨by omega, by omega⟩ (Nat.le_of_ble_eq_true rfl) (fun r h1 hk => ?_)
  obtain ⟨rfl, V1, z1, rfl, -, hv0, hvo⟩ := wK_I hk
  refine or_istore E dL_law_799 (by decide) ?_
  have hA := fA_split (x := x) (I := I) (b := (xs (i + 1))) (n := (xs (i + 2))) hX
  have hg := fA_gh hA
  have hJ := lw_J hI hg
  have hr := r_split (b := (xs (i + 1))) (e := (xs (i + 2))) hJ
  refine or_ghs (gh_S (I := I) hI.1.1) ?_
  refine or_aload_n (j := 2) E rfl dL_law_801 ?_
  refine or_arg (j := 1) W rfl rfl dL_law_802 dL_law_803 dL_law_805 dL_law_806 dL_law_807 (by omega) ?_
  refine or_arg (j := 2) W rfl rfl dL_law_808 dL_law_809 dL_law_811 dL_law_812 dL_law_813 (by omega) ?_
  refine or_cV2r (cM_split hI.1.2.1 hJ.2.1.2.1 (lw_o hJ).1.1 (lw_o hJ).1.2 (lw_o hJ).2.1 (lw_o hJ).2.2) E lk_L_193 dL_law_814 hI.1.2.1.1 rfl rfl (by decide) (by decide) ⟨by omega, by omega⟩ (Nat.le_of_ble_eq_true rfl) ?_
  refine or_istore E dL_law_817 (by decide) ?_
  have hst := lw_step hI hg (RR_up (RR_gh hr.1 hI.2.2.1.1.2) (show B ≤ B + 4000 by omega)) (fM_split (a := (xs (i + 1))) (b := (xs (i + 2)))) (lw_V hI (fun b hb => hvo b (by omega))) (lw_V2 hI (fun b hb => hvo b (by omega)))
  refine or_fin W hI.1.2.1 hr.2.1 (kx_lt (by decide)) hI.1.2.2.1 (fun hz => by rw [hv0 (kx_z hz), hr.2.2 (kx_z hz)]) rfl rfl rfl rfl (by omega) (by omega) dL_law_819 dL_law_820 dL_law_823 dL_law_825 dL_law_830 dL_law_832 dL_law_835 dL_law_836 dL_law_837 dL_law_838 dL_law_840 dL_law_841 dL_law_842 ?_
  refine or_goto 3148 E dL_law_847 rfl ?_
  refine or_lv (lwv b x m o i) rfl ?_
  exact or_wd (by omega) (by omega) (tl _ _ _ _ hst)
set_option maxRecDepth 100000 in
set_option maxHeartbeats 400000 in
theorem lc_10 {X : ow_X} {cs sl : Nat} {Z : Nat → Nat} {b L i x m o B z : Nat} {xs : Nat → Int32} {S : Nat → Option ow_Sh} {I : ow_I} {V : Nat → Nat → Value} (W : lwE X Z b L xs) (hI : lwI Z x m o B S I V) (hB : B + 4000 < 2 ^ 29) (hi : i + 6 ≤ L) (hc : cs + 44 ≤ 601024) (hs : sl + 5596 ≤ 7293034) (tl : ∀ (S1 : Nat → Option ow_Sh) (I1 : ow_I) (V1 : Nat → Nat → Value) (z1 : Nat), lwI Z x m o (B + 4000) S1 I1 V1 → ow_W X (cs + 44) (sl + 5596) (S1, I1, V1, z1) 3148 (lwv b x m o i) []) : ow_W X cs sl (S, I, V, z) 850 (lwv b x m o i) [] := by
  obtain ⟨E, G, GS, hL⟩ := id W
  have hX := hI.2.2.1.1.1
  refine or_aload_n (j := 1) E rfl dL_law_850 ?_
  refine or_arg (j := 1) W rfl rfl dL_law_851 dL_law_852 dL_law_854 dL_law_855 dL_law_856 (by omega) ?_
  refine or_aload_n (j := 3) E rfl dL_law_857 ?_
  refine oy_S (st := []) [.ref x, .int (xs (i + 1)), .ref o] (wL_withdraw (cA_withdraw hI.1.1 hX) hI.1.1.1 (fun r h0 hk => wr_I hI.1.2.2.1 hk) (fun c' h1 h0 hk => by rw [wk_c hk] at h0 ⊢; exact tc_withdraw.resolve_left (by omega))) E G lh_L_194 dL_law_858 rfl (by decide) (by decide) ⟨by omega, by omega⟩ (Nat.le_of_ble_eq_true rfl) (fun r h1 hk => ?_)
  obtain ⟨rfl, V1, z1, rfl, -, hv0, hvo⟩ := wK_I hk
  refine or_istore E dL_law_861 (by decide) ?_
  have hA := fA_withdraw (x := x) (I := I) (b := (xs (i + 1))) hX
  have hg := fA_gh hA
  have hJ := lw_J hI hg
  have hr := r_withdraw (b := (xs (i + 1))) hJ
  refine or_ghs (gh_S (I := I) hI.1.1) ?_
  refine or_aload_n (j := 2) E rfl dL_law_863 ?_
  refine or_arg (j := 1) W rfl rfl dL_law_864 dL_law_865 dL_law_867 dL_law_868 dL_law_869 (by omega) ?_
  refine or_cV1r (cM_withdraw hI.1.2.1 hJ.2.1.2.1 (lw_o hJ).1.1 (lw_o hJ).1.2 (lw_o hJ).2.1 (lw_o hJ).2.2) E lk_L_196 dL_law_870 hI.1.2.1.1 rfl rfl (by decide) (by decide) ⟨by omega, by omega⟩ (Nat.le_of_ble_eq_true rfl) ?_
  refine or_istore E dL_law_873 (by decide) ?_
  have hst := lw_step hI hg (RR_up (RR_gh hr.1 hI.2.2.1.1.2) (show B ≤ B + 4000 by omega)) (fM_withdraw (a := (xs (i + 1)))) (lw_V hI (fun b hb => hvo b (by omega))) (lw_V2 hI (fun b hb => hvo b (by omega)))
  refine or_fin W hI.1.2.1 hr.2.1 (kx_lt (by decide)) hI.1.2.2.1 (fun hz => by rw [hv0 (kx_z hz), hr.2.2 (kx_z hz)]) rfl rfl rfl rfl (by omega) (by omega) dL_law_875 dL_law_876 dL_law_879 dL_law_881 dL_law_886 dL_law_888 dL_law_891 dL_law_892 dL_law_893 dL_law_894 dL_law_896 dL_law_897 dL_law_898 ?_
  refine or_goto 3148 E dL_law_903 rfl ?_
  refine or_lv (lwv b x m o i) rfl ?_
  exact or_wd (by omega) (by omega) (tl _ _ _ _ hst)
set_option maxRecDepth 100000 in
set_option maxHeartbeats 400000 in
theorem lc_11 {X : ow_X} {cs sl : Nat} {Z : Nat → Nat} {b L i x m o B z : Nat} {xs : Nat → Int32} {S : Nat → Option ow_Sh} {I : ow_I} {V : Nat → Nat → Value} (W : lwE X Z b L xs) (hI : lwI Z x m o B S I V) (hB : B + 4000 < 2 ^ 29) (hi : i + 6 ≤ L) (hc : cs + 44 ≤ 601024) (hs : sl + 5596 ≤ 7293034) (tl : ∀ (S1 : Nat → Option ow_Sh) (I1 : ow_I) (V1 : Nat → Nat → Value) (z1 : Nat), lwI Z x m o (B + 4000) S1 I1 V1 → ow_W X (cs + 44) (sl + 5596) (S1, I1, V1, z1) 3148 (lwv b x m o i) []) : ow_W X cs sl (S, I, V, z) 906 (lwv b x m o i) [] := by
  obtain ⟨E, G, GS, hL⟩ := id W
  have hX := hI.2.2.1.1.1
  refine or_aload_n (j := 1) E rfl dL_law_906 ?_
  refine or_arg (j := 1) W rfl rfl dL_law_907 dL_law_908 dL_law_910 dL_law_911 dL_law_912 (by omega) ?_
  refine or_arg (j := 2) W rfl rfl dL_law_913 dL_law_914 dL_law_916 dL_law_917 dL_law_918 (by omega) ?_
  refine or_aload_n (j := 3) E rfl dL_law_919 ?_
  refine oy_S (st := []) [.ref x, .int (xs (i + 1)), .int (xs (i + 2)), .ref o] (wL_fund (cA_fund hI.1.1 hX) hI.1.1.1 (fun r h0 hk => wr_I hI.1.2.2.1 hk) (fun c' h1 h0 hk => by rw [wk_c hk] at h0 ⊢; exact tc_fund.resolve_left (by omega))) E G lh_L_197 dL_law_920 rfl (by decide) (by decide) ⟨by omega, by omega⟩ (Nat.le_of_ble_eq_true rfl) (fun r h1 hk => ?_)
  obtain ⟨rfl, V1, z1, rfl, -, hv0, hvo⟩ := wK_I hk
  refine or_istore E dL_law_923 (by decide) ?_
  have hA := fA_fund (x := x) (I := I) (b := (xs (i + 1))) (c := (xs (i + 2))) hX
  have hg := fA_gh hA
  have hJ := lw_J hI hg
  have hr := r_fund (b := (xs (i + 1))) (c := (xs (i + 2))) hJ
  refine or_ghs (gh_S (I := I) hI.1.1) ?_
  refine or_aload_n (j := 2) E rfl dL_law_925 ?_
  refine or_arg (j := 1) W rfl rfl dL_law_926 dL_law_927 dL_law_929 dL_law_930 dL_law_931 (by omega) ?_
  refine or_arg (j := 2) W rfl rfl dL_law_932 dL_law_933 dL_law_935 dL_law_936 dL_law_937 (by omega) ?_
  refine or_cV2r (cM_fund hI.1.2.1 hJ.2.1.2.1 (lw_o hJ).1.1 (lw_o hJ).1.2 (lw_o hJ).2.1 (lw_o hJ).2.2) E lk_L_199 dL_law_938 hI.1.2.1.1 rfl rfl (by decide) (by decide) ⟨by omega, by omega⟩ (Nat.le_of_ble_eq_true rfl) ?_
  refine or_istore E dL_law_941 (by decide) ?_
  have hst := lw_step hI hg (RR_up (RR_gh hr.1 hI.2.2.1.1.2) (show B ≤ B + 4000 by omega)) (fM_fund (a := (xs (i + 1))) (b := (xs (i + 2)))) (lw_V hI (fun b hb => hvo b (by omega))) (lw_V2 hI (fun b hb => hvo b (by omega)))
  refine or_fin W hI.1.2.1 hr.2.1 (kx_lt (by decide)) hI.1.2.2.1 (fun hz => by rw [hv0 (kx_z hz), hr.2.2 (kx_z hz)]) rfl rfl rfl rfl (by omega) (by omega) dL_law_943 dL_law_944 dL_law_947 dL_law_949 dL_law_954 dL_law_956 dL_law_959 dL_law_960 dL_law_961 dL_law_962 dL_law_964 dL_law_965 dL_law_966 ?_
  refine or_goto 3148 E dL_law_971 rfl ?_
  refine or_lv (lwv b x m o i) rfl ?_
  exact or_wd (by omega) (by omega) (tl _ _ _ _ hst)
set_option maxRecDepth 100000 in
set_option maxHeartbeats 400000 in
theorem lc_12 {X : ow_X} {cs sl : Nat} {Z : Nat → Nat} {b L i x m o B z : Nat} {xs : Nat → Int32} {S : Nat → Option ow_Sh} {I : ow_I} {V : Nat → Nat → Value} (W : lwE X Z b L xs) (hI : lwI Z x m o B S I V) (hB : B + 4000 < 2 ^ 29) (hi : i + 6 ≤ L) (hc : cs + 44 ≤ 601024) (hs : sl + 5596 ≤ 7293034) (tl : ∀ (S1 : Nat → Option ow_Sh) (I1 : ow_I) (V1 : Nat → Nat → Value) (z1 : Nat), lwI Z x m o (B + 4000) S1 I1 V1 → ow_W X (cs + 44) (sl + 5596) (S1, I1, V1, z1) 3148 (lwv b x m o i) []) : ow_W X cs sl (S, I, V, z) 974 (lwv b x m o i) [] := by
  obtain ⟨E, G, GS, hL⟩ := id W
  have hX := hI.2.2.1.1.1
  refine or_aload_n (j := 1) E rfl dL_law_974 ?_
  refine or_arg (j := 1) W rfl rfl dL_law_975 dL_law_976 dL_law_978 dL_law_979 dL_law_980 (by omega) ?_
  refine or_arg (j := 2) W rfl rfl dL_law_981 dL_law_982 dL_law_984 dL_law_985 dL_law_986 (by omega) ?_
  refine or_aload_n (j := 3) E rfl dL_law_987 ?_
  refine oy_S (st := []) [.ref x, .int (xs (i + 1)), .int (xs (i + 2)), .ref o] (wL_setReserve (cA_setReserve hI.1.1 hX) hI.1.1.1 (fun r h0 hk => wr_I hI.1.2.2.1 hk) (fun c' h1 h0 hk => by rw [wk_c hk] at h0 ⊢; exact tc_setReserve.resolve_left (by omega))) E G lh_L_200 dL_law_988 rfl (by decide) (by decide) ⟨by omega, by omega⟩ (Nat.le_of_ble_eq_true rfl) (fun r h1 hk => ?_)
  obtain ⟨rfl, V1, z1, rfl, -, hv0, hvo⟩ := wK_I hk
  refine or_istore E dL_law_991 (by decide) ?_
  have hA := fA_setReserve (x := x) (I := I) (b := (xs (i + 1))) (c := (xs (i + 2))) hI.2.2.1
  have hg := fA_gh hA
  have hJ := lw_J hI hg
  have hr := r_setReserve (b := (xs (i + 1))) (c := (xs (i + 2))) hJ
  refine or_ghs (gh_S (I := I) hI.1.1) ?_
  refine or_aload_n (j := 2) E rfl dL_law_993 ?_
  refine or_arg (j := 1) W rfl rfl dL_law_994 dL_law_995 dL_law_997 dL_law_998 dL_law_999 (by omega) ?_
  refine or_arg (j := 2) W rfl rfl dL_law_1000 dL_law_1001 dL_law_1003 dL_law_1004 dL_law_1005 (by omega) ?_
  refine or_cV2r (cM_setReserve hI.1.2.1 hJ.2.1.2.1 (lw_o hJ).1.1 (lw_o hJ).1.2 (lw_o hJ).2.1 (lw_o hJ).2.2) E lk_L_202 dL_law_1006 hI.1.2.1.1 rfl rfl (by decide) (by decide) ⟨by omega, by omega⟩ (Nat.le_of_ble_eq_true rfl) ?_
  refine or_istore E dL_law_1009 (by decide) ?_
  have hst := lw_step hI hg (RR_up (RR_gh hr.1 hI.2.2.1.1.2) (show B ≤ B + 4000 by omega)) (fM_setReserve (a := (xs (i + 1))) (b := (xs (i + 2)))) (lw_V hI (fun b hb => hvo b (by omega))) (lw_V2 hI (fun b hb => hvo b (by omega)))
  refine or_fin W hI.1.2.1 hr.2.1 (kx_lt (by decide)) hI.1.2.2.1 (fun hz => by rw [hv0 (kx_z hz), hr.2.2 (kx_z hz)]) rfl rfl rfl rfl (by omega) (by omega) dL_law_1011 dL_law_1012 dL_law_1015 dL_law_1017 dL_law_1022 dL_law_1024 dL_law_1027 dL_law_1028 dL_law_1029 dL_law_1030 dL_law_1032 dL_law_1033 dL_law_1034 ?_
  refine or_goto 3148 E dL_law_1039 rfl ?_
  refine or_lv (lwv b x m o i) rfl ?_
  exact or_wd (by omega) (by omega) (tl _ _ _ _ hst)
set_option maxRecDepth 100000 in
set_option maxHeartbeats 400000 in
theorem lc_13 {X : ow_X} {cs sl : Nat} {Z : Nat → Nat} {b L i x m o B z : Nat} {xs : Nat → Int32} {S : Nat → Option ow_Sh} {I : ow_I} {V : Nat → Nat → Value} (W : lwE X Z b L xs) (hI : lwI Z x m o B S I V) (hB : B + 4000 < 2 ^ 29) (hi : i + 6 ≤ L) (hc : cs + 44 ≤ 601024) (hs : sl + 5596 ≤ 7293034) (tl : ∀ (S1 : Nat → Option ow_Sh) (I1 : ow_I) (V1 : Nat → Nat → Value) (z1 : Nat), lwI Z x m o (B + 4000) S1 I1 V1 → ow_W X (cs + 44) (sl + 5596) (S1, I1, V1, z1) 3148 (lwv b x m o i) []) : ow_W X cs sl (S, I, V, z) 1042 (lwv b x m o i) [] := by
  obtain ⟨E, G, GS, hL⟩ := id W
  have hX := hI.2.2.1.1.1
  refine or_aload_n (j := 1) E rfl dL_law_1042 ?_
  refine or_arg (j := 1) W rfl rfl dL_law_1043 dL_law_1044 dL_law_1046 dL_law_1047 dL_law_1048 (by omega) ?_
  refine or_aload_n (j := 3) E rfl dL_law_1049 ?_
  refine oy_S (st := []) [.ref x, .int (xs (i + 1)), .ref o] (wL_setStep (cA_setStep hI.1.1 hX) hI.1.1.1 (fun r h0 hk => wr_I hI.1.2.2.1 hk) (fun c' h1 h0 hk => by rw [wk_c hk] at h0 ⊢; exact tc_setStep.resolve_left (by omega))) E G lh_L_203 dL_law_1050 rfl (by decide) (by decide) ⟨by omega, by omega⟩ (Nat.le_of_ble_eq_true rfl) (fun r h1 hk => ?_)
  obtain ⟨rfl, V1, z1, rfl, -, hv0, hvo⟩ := wK_I hk
  refine or_istore E dL_law_1053 (by decide) ?_
  have hA := fA_setStep (x := x) (I := I) (s := (xs (i + 1))) hX
  have hg := fA_gh hA
  have hJ := lw_J hI hg
  have hr := r_setStep (c := (xs (i + 1))) hJ
  refine or_ghs (gh_S (I := I) hI.1.1) ?_
  refine or_aload_n (j := 2) E rfl dL_law_1055 ?_
  refine or_arg (j := 1) W rfl rfl dL_law_1056 dL_law_1057 dL_law_1059 dL_law_1060 dL_law_1061 (by omega) ?_
  refine or_cV1r (cM_setStep hI.1.2.1 (lw_o hJ).1.1 (lw_o hJ).1.2 (lw_o hJ).2.1 (lw_o hJ).2.2) E lk_L_205 dL_law_1062 hI.1.2.1.1 rfl rfl (by decide) (by decide) ⟨by omega, by omega⟩ (Nat.le_of_ble_eq_true rfl) ?_
  refine or_istore E dL_law_1065 (by decide) ?_
  have hst := lw_step hI hg (RR_up (RR_gh hr.1 hI.2.2.1.1.2) (show B ≤ B + 4000 by omega)) (fM_setStep (a := (xs (i + 1)))) (lw_V hI (fun b hb => hvo b (by omega))) (lw_V2 hI (fun b hb => hvo b (by omega)))
  refine or_fin W hI.1.2.1 hr.2.1 (kx_lt (by decide)) hI.1.2.2.1 (fun hz => by rw [hv0 (kx_z hz), hr.2.2 (kx_z hz)]) rfl rfl rfl rfl (by omega) (by omega) dL_law_1067 dL_law_1068 dL_law_1071 dL_law_1073 dL_law_1078 dL_law_1080 dL_law_1083 dL_law_1084 dL_law_1085 dL_law_1086 dL_law_1088 dL_law_1089 dL_law_1090 ?_
  refine or_goto 3148 E dL_law_1095 rfl ?_
  refine or_lv (lwv b x m o i) rfl ?_
  exact or_wd (by omega) (by omega) (tl _ _ _ _ hst)
set_option maxRecDepth 100000 in
set_option maxHeartbeats 400000 in
theorem lc_14 {X : ow_X} {cs sl : Nat} {Z : Nat → Nat} {b L i x m o B z : Nat} {xs : Nat → Int32} {S : Nat → Option ow_Sh} {I : ow_I} {V : Nat → Nat → Value} (W : lwE X Z b L xs) (hI : lwI Z x m o B S I V) (hB : B + 4000 < 2 ^ 29) (hi : i + 6 ≤ L) (hc : cs + 44 ≤ 601024) (hs : sl + 5596 ≤ 7293034) (tl : ∀ (S1 : Nat → Option ow_Sh) (I1 : ow_I) (V1 : Nat → Nat → Value) (z1 : Nat), lwI Z x m o (B + 4000) S1 I1 V1 → ow_W X (cs + 44) (sl + 5596) (S1, I1, V1, z1) 3148 (lwv b x m o i) []) : ow_W X cs sl (S, I, V, z) 1098 (lwv b x m o i) [] := by
  obtain ⟨E, G, GS, hL⟩ := id W
  have hX := hI.2.2.1.1.1
  refine or_aload_n (j := 1) E rfl dL_law_1098 ?_
  refine or_arg (j := 1) W rfl rfl dL_law_1099 dL_law_1100 dL_law_1102 dL_law_1103 dL_law_1104 (by omega) ?_
  refine or_arg (j := 2) W rfl rfl dL_law_1105 dL_law_1106 dL_law_1108 dL_law_1109 dL_law_1110 (by omega) ?_
  refine or_arg (j := 3) W rfl rfl dL_law_1111 dL_law_1112 dL_law_1114 dL_law_1115 dL_law_1116 (by omega) ?_
  refine or_aload_n (j := 3) E rfl dL_law_1117 ?_
  refine oy_S (st := []) [.ref x, .int (xs (i + 1)), .int (xs (i + 2)), .int (xs (i + 3)), .ref o] (wL_setTaste (cA_setTaste hI.1.1 hX) hI.1.1.1 (fun r h0 hk => wr_I hI.1.2.2.1 hk) (fun c' h1 h0 hk => by rw [wk_c hk] at h0 ⊢; exact tc_setTaste.resolve_left (by omega))) E G lh_L_206 dL_law_1118 rfl (by decide) (by decide) ⟨by omega, by omega⟩ (Nat.le_of_ble_eq_true rfl) (fun r h1 hk => ?_)
  obtain ⟨rfl, V1, z1, rfl, -, hv0, hvo⟩ := wK_I hk
  refine or_istore E dL_law_1121 (by decide) ?_
  have hA := fA_setTaste (x := x) (I := I) (b := (xs (i + 1))) (s := (xs (i + 2))) (f := (xs (i + 3))) hI.2.2.1
  have hg := fA_gh hA
  have hJ := lw_J hI hg
  have hr := r_setTaste (b := (xs (i + 1))) (s := (xs (i + 2))) (f := (xs (i + 3))) hJ
  refine or_ghs (gh_S (I := I) hI.1.1) ?_
  refine or_aload_n (j := 2) E rfl dL_law_1123 ?_
  refine or_arg (j := 1) W rfl rfl dL_law_1124 dL_law_1125 dL_law_1127 dL_law_1128 dL_law_1129 (by omega) ?_
  refine or_arg (j := 2) W rfl rfl dL_law_1130 dL_law_1131 dL_law_1133 dL_law_1134 dL_law_1135 (by omega) ?_
  refine or_arg (j := 3) W rfl rfl dL_law_1136 dL_law_1137 dL_law_1139 dL_law_1140 dL_law_1141 (by omega) ?_
  refine or_cV3r (cM_setTaste hI.1.2.1 hJ.2.1.2.1 (lw_o hJ).1.1 (lw_o hJ).1.2 (lw_o hJ).2.1 (lw_o hJ).2.2) E lk_L_208 dL_law_1142 hI.1.2.1.1 rfl rfl (by decide) (by decide) ⟨by omega, by omega⟩ (Nat.le_of_ble_eq_true rfl) ?_
  refine or_istore E dL_law_1145 (by decide) ?_
  have hst := lw_step hI hg (RR_up (RR_gh hr.1 hI.2.2.1.1.2) (show B ≤ B + 4000 by omega)) (fM_setTaste (a := (xs (i + 1))) (b := (xs (i + 2))) (c := (xs (i + 3)))) (lw_V hI (fun b hb => hvo b (by omega))) (lw_V2 hI (fun b hb => hvo b (by omega)))
  refine or_fin W hI.1.2.1 hr.2.1 (kx_lt (by decide)) hI.1.2.2.1 (fun hz => by rw [hv0 (kx_z hz), hr.2.2 (kx_z hz)]) rfl rfl rfl rfl (by omega) (by omega) dL_law_1147 dL_law_1148 dL_law_1151 dL_law_1153 dL_law_1158 dL_law_1160 dL_law_1163 dL_law_1164 dL_law_1165 dL_law_1166 dL_law_1168 dL_law_1169 dL_law_1170 ?_
  refine or_goto 3148 E dL_law_1175 rfl ?_
  refine or_lv (lwv b x m o i) rfl ?_
  exact or_wd (by omega) (by omega) (tl _ _ _ _ hst)
set_option maxRecDepth 100000 in
set_option maxHeartbeats 400000 in
theorem lc_15 {X : ow_X} {cs sl : Nat} {Z : Nat → Nat} {b L i x m o B z : Nat} {xs : Nat → Int32} {S : Nat → Option ow_Sh} {I : ow_I} {V : Nat → Nat → Value} (W : lwE X Z b L xs) (hI : lwI Z x m o B S I V) (hB : B + 4000 < 2 ^ 29) (hi : i + 6 ≤ L) (hc : cs + 44 ≤ 601024) (hs : sl + 5596 ≤ 7293034) (tl : ∀ (S1 : Nat → Option ow_Sh) (I1 : ow_I) (V1 : Nat → Nat → Value) (z1 : Nat), lwI Z x m o (B + 4000) S1 I1 V1 → ow_W X (cs + 44) (sl + 5596) (S1, I1, V1, z1) 3148 (lwv b x m o i) []) : ow_W X cs sl (S, I, V, z) 1178 (lwv b x m o i) [] := by
  obtain ⟨E, G, GS, hL⟩ := id W
  have hX := hI.2.2.1.1.1
  refine or_aload_n (j := 1) E rfl dL_law_1178 ?_
  refine or_aload_n (j := 3) E rfl dL_law_1179 ?_
  refine oy_S (st := []) [.ref x, .ref o] (wL_undo (cA_undo hI.1.1 hX) hI.1.1.1 (fun r h0 hk => wr_I hI.1.2.2.1 hk) (fun c' h1 h0 hk => by rw [wk_c hk] at h0 ⊢; exact tc_undo.resolve_left (by omega))) E G lh_L_209 dL_law_1180 rfl (by decide) (by decide) ⟨by omega, by omega⟩ (Nat.le_of_ble_eq_true rfl) (fun r h1 hk => ?_)
  obtain ⟨rfl, V1, z1, rfl, -, hv0, hvo⟩ := wK_I hk
  refine or_istore E dL_law_1183 (by decide) ?_
  have hA := fA_undo (x := x) (I := I) hX
  have hg := fA_gh hA
  have hJ := lw_J hI hg
  have hr := r_undo hJ
  refine or_ghs (gh_S (I := I) hI.1.1) ?_
  refine or_aload_n (j := 2) E rfl dL_law_1185 ?_
  refine or_cV0r (cM_undo hI.1.2.1 (lw_o hJ).1.1 (lw_o hJ).1.2 (lw_o hJ).2.1 (lw_o hJ).2.2) E lk_L_211 dL_law_1186 hI.1.2.1.1 rfl rfl (by decide) (by decide) ⟨by omega, by omega⟩ (Nat.le_of_ble_eq_true rfl) ?_
  refine or_istore E dL_law_1189 (by decide) ?_
  have hst := lw_step hI hg (RR_up (RR_gh hr.1 hI.2.2.1.1.2) (show B ≤ B + 4000 by omega)) fM_undo (lw_V hI (fun b hb => hvo b (by omega))) (lw_V2 hI (fun b hb => hvo b (by omega)))
  refine or_fin W hI.1.2.1 hr.2.1 (kx_lt (by decide)) hI.1.2.2.1 (fun hz => by rw [hv0 (kx_z hz), hr.2.2 (kx_z hz)]) rfl rfl rfl rfl (by omega) (by omega) dL_law_1191 dL_law_1192 dL_law_1195 dL_law_1197 dL_law_1202 dL_law_1204 dL_law_1207 dL_law_1208 dL_law_1209 dL_law_1210 dL_law_1212 dL_law_1213 dL_law_1214 ?_
  refine or_goto 3148 E dL_law_1219 rfl ?_
  refine or_lv (lwv b x m o i) rfl ?_
  exact or_wd (by omega) (by omega) (tl _ _ _ _ hst)
set_option maxRecDepth 100000 in
set_option maxHeartbeats 400000 in
theorem lc_17 {X : ow_X} {cs sl : Nat} {Z : Nat → Nat} {b L i x m o B z : Nat} {xs : Nat → Int32} {S : Nat → Option ow_Sh} {I : ow_I} {V : Nat → Nat → Value} (W : lwE X Z b L xs) (hI : lwI Z x m o B S I V) (hB : B + 4000 < 2 ^ 29) (hi : i + 6 ≤ L) (hc : cs + 44 ≤ 601024) (hs : sl + 5596 ≤ 7293034) (tl : ∀ (S1 : Nat → Option ow_Sh) (I1 : ow_I) (V1 : Nat → Nat → Value) (z1 : Nat), lwI Z x m o (B + 4000) S1 I1 V1 → ow_W X (cs + 44) (sl + 5596) (S1, I1, V1, z1) 3148 (lwv b x m o i) []) : ow_W X cs sl (S, I, V, z) 1258 (lwv b x m o i) [] := by
  obtain ⟨E, G, GS, hL⟩ := id W
  have hX := hI.2.2.1.1.1
  refine or_aload_n (j := 1) E rfl dL_law_1258 ?_
  refine or_arg (j := 1) W rfl rfl dL_law_1259 dL_law_1260 dL_law_1262 dL_law_1263 dL_law_1264 (by omega) ?_
  refine or_aload_n (j := 3) E rfl dL_law_1265 ?_
  refine oy_S (st := []) [.ref x, .int (xs (i + 1)), .ref o] (wL_restoreSnapshot (cA_restoreSnapshot hI.1.1 hX) hI.1.1.1 (fun r h0 hk => wr_I hI.1.2.2.1 hk) (fun c' h1 h0 hk => by rw [wk_c hk] at h0 ⊢; exact tc_restoreSnapshot.resolve_left (by omega))) E G lh_L_216 dL_law_1266 rfl (by decide) (by decide) ⟨by omega, by omega⟩ (Nat.le_of_ble_eq_true rfl) (fun r h1 hk => ?_)
  obtain ⟨rfl, V1, z1, rfl, -, hv0, hvo⟩ := wK_I hk
  refine or_istore E dL_law_1269 (by decide) ?_
  have hA := fA_restoreSnapshot (x := x) (I := I) (s := (xs (i + 1))) hX
  have hg := fA_gh hA
  have hJ := lw_J hI hg
  have hr := r_restoreSnapshot (s := (xs (i + 1))) hJ
  refine or_ghs (gh_S (I := I) hI.1.1) ?_
  refine or_aload_n (j := 2) E rfl dL_law_1271 ?_
  refine or_arg (j := 1) W rfl rfl dL_law_1272 dL_law_1273 dL_law_1275 dL_law_1276 dL_law_1277 (by omega) ?_
  refine or_cV1r (cM_restoreSnapshot hI.1.2.1 (lw_o hJ).1.1 (lw_o hJ).1.2 (lw_o hJ).2.1 (lw_o hJ).2.2) E lk_L_218 dL_law_1278 hI.1.2.1.1 rfl rfl (by decide) (by decide) ⟨by omega, by omega⟩ (Nat.le_of_ble_eq_true rfl) ?_
  refine or_istore E dL_law_1281 (by decide) ?_
  have hst := lw_step hI hg (RR_up (RR_gh hr.1 hI.2.2.1.1.2) (show B ≤ B + 4000 by omega)) (fM_restoreSnapshot (a := (xs (i + 1)))) (lw_V hI (fun b hb => hvo b (by omega))) (lw_V2 hI (fun b hb => hvo b (by omega)))
  refine or_fin W hI.1.2.1 hr.2.1 (kx_lt (by decide)) hI.1.2.2.1 (fun hz => by rw [hv0 (kx_z hz), hr.2.2 (kx_z hz)]) rfl rfl rfl rfl (by omega) (by omega) dL_law_1283 dL_law_1284 dL_law_1287 dL_law_1289 dL_law_1294 dL_law_1296 dL_law_1299 dL_law_1300 dL_law_1301 dL_law_1302 dL_law_1304 dL_law_1305 dL_law_1306 ?_
  refine or_goto 3148 E dL_law_1311 rfl ?_
  refine or_lv (lwv b x m o i) rfl ?_
  exact or_wd (by omega) (by omega) (tl _ _ _ _ hst)
set_option maxRecDepth 100000 in
set_option maxHeartbeats 400000 in
theorem lc_32 {X : ow_X} {cs sl : Nat} {Z : Nat → Nat} {b L i x m o B z : Nat} {xs : Nat → Int32} {S : Nat → Option ow_Sh} {I : ow_I} {V : Nat → Nat → Value} (W : lwE X Z b L xs) (hI : lwI Z x m o B S I V) (hB : B + 4000 < 2 ^ 29) (hi : i + 6 ≤ L) (hc : cs + 44 ≤ 601024) (hs : sl + 5596 ≤ 7293034) (tl : ∀ (S1 : Nat → Option ow_Sh) (I1 : ow_I) (V1 : Nat → Nat → Value) (z1 : Nat), lwI Z x m o (B + 4000) S1 I1 V1 → ow_W X (cs + 44) (sl + 5596) (S1, I1, V1, z1) 3148 (lwv b x m o i) []) : ow_W X cs sl (S, I, V, z) 1508 (lwv b x m o i) [] := by
  obtain ⟨E, G, GS, hL⟩ := id W
  have hX := hI.2.2.1.1.1
  refine or_aload_n (j := 1) E rfl dL_law_1508 ?_
  refine or_arg (j := 1) W rfl rfl dL_law_1509 dL_law_1510 dL_law_1512 dL_law_1513 dL_law_1514 (by omega) ?_
  refine or_aload_n (j := 3) E rfl dL_law_1515 ?_
  refine oy_S (st := []) [.ref x, .int (xs (i + 1)), .ref o] (wL_eels (cA_eels hI.1.1 hX.1) hI.1.1.1 (fun r h0 hk => wr_I hI.1.2.2.1 hk) (fun c' h1 h0 hk => by rw [wk_c hk] at h0 ⊢; exact tc_eels.resolve_left (by omega))) E G lh_L_276 dL_law_1516 rfl (by decide) (by decide) ⟨by omega, by omega⟩ (Nat.le_of_ble_eq_true rfl) (fun r h1 hk => ?_)
  obtain ⟨rfl, V1, z1, rfl, -, hv0, hvo⟩ := wK_I hk
  refine or_istore E dL_law_1519 (by decide) ?_
  have hg := @fA_r x I
  have hJ := lw_J hI hg
  have hr := q_eels (b := (xs (i + 1))) hJ
  refine or_aload_n (j := 2) E rfl dL_law_1521 ?_
  refine or_arg (j := 1) W rfl rfl dL_law_1522 dL_law_1523 dL_law_1525 dL_law_1526 dL_law_1527 (by omega) ?_
  refine or_cV1r (cM_eels hI.1.2.1 hJ.2.1.2.1) E lk_L_278 dL_law_1528 hI.1.2.1.1 rfl rfl (by decide) (by decide) ⟨by omega, by omega⟩ (Nat.le_of_ble_eq_true rfl) ?_
  refine or_istore E dL_law_1531 (by decide) ?_
  have hst := lw_step hI hg (RR_up hr.1 (show B ≤ B + 4000 by omega)) (fM_eels (a := (xs (i + 1)))) (lw_V0 hI (fun b hb => hvo b (by omega))) (lw_V2 hI (fun b hb => hvo b (by omega)))
  refine or_fin W hI.1.2.1 hr.2.1 (kx_lt (by decide)) hI.1.2.2.1 (fun hz => by rw [hv0 (kx_z hz), hr.2.2 (kx_z hz)]) rfl rfl rfl rfl (by omega) (by omega) dL_law_1533 dL_law_1534 dL_law_1537 dL_law_1539 dL_law_1544 dL_law_1546 dL_law_1549 dL_law_1550 dL_law_1551 dL_law_1552 dL_law_1554 dL_law_1555 dL_law_1556 ?_
  refine or_goto 3148 E dL_law_1561 rfl ?_
  refine or_lv (lwv b x m o i) rfl ?_
  exact or_wd (by omega) (by omega) (tl _ _ _ _ hst)
set_option maxRecDepth 100000 in
set_option maxHeartbeats 400000 in
theorem lc_33 {X : ow_X} {cs sl : Nat} {Z : Nat → Nat} {b L i x m o B z : Nat} {xs : Nat → Int32} {S : Nat → Option ow_Sh} {I : ow_I} {V : Nat → Nat → Value} (W : lwE X Z b L xs) (hI : lwI Z x m o B S I V) (hB : B + 4000 < 2 ^ 29) (hi : i + 6 ≤ L) (hc : cs + 44 ≤ 601024) (hs : sl + 5596 ≤ 7293034) (tl : ∀ (S1 : Nat → Option ow_Sh) (I1 : ow_I) (V1 : Nat → Nat → Value) (z1 : Nat), lwI Z x m o (B + 4000) S1 I1 V1 → ow_W X (cs + 44) (sl + 5596) (S1, I1, V1, z1) 3148 (lwv b x m o i) []) : ow_W X cs sl (S, I, V, z) 1564 (lwv b x m o i) [] := by
  obtain ⟨E, G, GS, hL⟩ := id W
  have hX := hI.2.2.1.1.1
  refine or_aload_n (j := 1) E rfl dL_law_1564 ?_
  refine or_arg (j := 1) W rfl rfl dL_law_1565 dL_law_1566 dL_law_1568 dL_law_1569 dL_law_1570 (by omega) ?_
  refine or_arg (j := 2) W rfl rfl dL_law_1571 dL_law_1572 dL_law_1574 dL_law_1575 dL_law_1576 (by omega) ?_
  refine or_aload_n (j := 3) E rfl dL_law_1577 ?_
  refine oy_S (st := []) [.ref x, .int (xs (i + 1)), .int (xs (i + 2)), .ref o] (wL_length (cA_length hI.1.1 hX) hI.1.1.1 (fun r h0 hk => wr_I hI.1.2.2.1 hk) (fun c' h1 h0 hk => by rw [wk_c hk] at h0 ⊢; exact tc_length.resolve_left (by omega))) E G lh_L_279 dL_law_1578 rfl (by decide) (by decide) ⟨by omega, by omega⟩ (Nat.le_of_ble_eq_true rfl) (fun r h1 hk => ?_)
  obtain ⟨rfl, V1, z1, rfl, -, hv0, hvo⟩ := wK_I hk
  refine or_istore E dL_law_1581 (by decide) ?_
  have hg := @fA_r x I
  have hJ := lw_J hI hg
  have hr := q_length (b := (xs (i + 1))) (e := (xs (i + 2))) hJ
  refine or_aload_n (j := 2) E rfl dL_law_1583 ?_
  refine or_arg (j := 1) W rfl rfl dL_law_1584 dL_law_1585 dL_law_1587 dL_law_1588 dL_law_1589 (by omega) ?_
  refine or_arg (j := 2) W rfl rfl dL_law_1590 dL_law_1591 dL_law_1593 dL_law_1594 dL_law_1595 (by omega) ?_
  refine or_cV2r (cM_length hI.1.2.1 hJ.2.1.2.1) E lk_L_281 dL_law_1596 hI.1.2.1.1 rfl rfl (by decide) (by decide) ⟨by omega, by omega⟩ (Nat.le_of_ble_eq_true rfl) ?_
  refine or_istore E dL_law_1599 (by decide) ?_
  have hst := lw_step hI hg (RR_up hr.1 (show B ≤ B + 4000 by omega)) (fM_length (a := (xs (i + 1))) (b := (xs (i + 2)))) (lw_V0 hI (fun b hb => hvo b (by omega))) (lw_V2 hI (fun b hb => hvo b (by omega)))
  refine or_fin W hI.1.2.1 hr.2.1 (kx_lt (by decide)) hI.1.2.2.1 (fun hz => by rw [hv0 (kx_z hz), hr.2.2 (kx_z hz)]) rfl rfl rfl rfl (by omega) (by omega) dL_law_1601 dL_law_1602 dL_law_1605 dL_law_1607 dL_law_1612 dL_law_1614 dL_law_1617 dL_law_1618 dL_law_1619 dL_law_1620 dL_law_1622 dL_law_1623 dL_law_1624 ?_
  refine or_goto 3148 E dL_law_1629 rfl ?_
  refine or_lv (lwv b x m o i) rfl ?_
  exact or_wd (by omega) (by omega) (tl _ _ _ _ hst)
set_option maxRecDepth 100000 in
set_option maxHeartbeats 400000 in
theorem lc_34 {X : ow_X} {cs sl : Nat} {Z : Nat → Nat} {b L i x m o B z : Nat} {xs : Nat → Int32} {S : Nat → Option ow_Sh} {I : ow_I} {V : Nat → Nat → Value} (W : lwE X Z b L xs) (hI : lwI Z x m o B S I V) (hB : B + 4000 < 2 ^ 29) (hi : i + 6 ≤ L) (hc : cs + 44 ≤ 601024) (hs : sl + 5596 ≤ 7293034) (tl : ∀ (S1 : Nat → Option ow_Sh) (I1 : ow_I) (V1 : Nat → Nat → Value) (z1 : Nat), lwI Z x m o (B + 4000) S1 I1 V1 → ow_W X (cs + 44) (sl + 5596) (S1, I1, V1, z1) 3148 (lwv b x m o i) []) : ow_W X cs sl (S, I, V, z) 1632 (lwv b x m o i) [] := by
  obtain ⟨E, G, GS, hL⟩ := id W
  have hX := hI.2.2.1.1.1
  refine or_aload_n (j := 1) E rfl dL_law_1632 ?_
  refine or_arg (j := 1) W rfl rfl dL_law_1633 dL_law_1634 dL_law_1636 dL_law_1637 dL_law_1638 (by omega) ?_
  refine or_aload_n (j := 3) E rfl dL_law_1639 ?_
  refine oy_S (st := []) [.ref x, .int (xs (i + 1)), .ref o] (wL_totalLength (cA_totalLength hI.1.1 hX.1) hI.1.1.1 (fun r h0 hk => wr_I hI.1.2.2.1 hk) (fun c' h1 h0 hk => by rw [wk_c hk] at h0 ⊢; exact tc_totalLength.resolve_left (by omega))) E G lh_L_282 dL_law_1640 rfl (by decide) (by decide) ⟨by omega, by omega⟩ (Nat.le_of_ble_eq_true rfl) (fun r h1 hk => ?_)
  obtain ⟨rfl, V1, z1, rfl, -, hv0, hvo⟩ := wK_I hk
  refine or_istore E dL_law_1643 (by decide) ?_
  have hg := @fA_r x I
  have hJ := lw_J hI hg
  have hr := q_totalLength (b := (xs (i + 1))) hJ
  refine or_aload_n (j := 2) E rfl dL_law_1645 ?_
  refine or_arg (j := 1) W rfl rfl dL_law_1646 dL_law_1647 dL_law_1649 dL_law_1650 dL_law_1651 (by omega) ?_
  refine or_cV1r (cM_totalLength hI.1.2.1 hJ.2.1.2.1) E lk_L_284 dL_law_1652 hI.1.2.1.1 rfl rfl (by decide) (by decide) ⟨by omega, by omega⟩ (Nat.le_of_ble_eq_true rfl) ?_
  refine or_istore E dL_law_1655 (by decide) ?_
  have hst := lw_step hI hg (RR_up hr.1 (show B ≤ B + 4000 by omega)) (fM_totalLength (a := (xs (i + 1)))) (lw_V0 hI (fun b hb => hvo b (by omega))) (lw_V2 hI (fun b hb => hvo b (by omega)))
  refine or_fin W hI.1.2.1 hr.2.1 (kx_lt (by decide)) hI.1.2.2.1 (fun hz => by rw [hv0 (kx_z hz), hr.2.2 (kx_z hz)]) rfl rfl rfl rfl (by omega) (by omega) dL_law_1657 dL_law_1658 dL_law_1661 dL_law_1663 dL_law_1668 dL_law_1670 dL_law_1673 dL_law_1674 dL_law_1675 dL_law_1676 dL_law_1678 dL_law_1679 dL_law_1680 ?_
  refine or_goto 3148 E dL_law_1685 rfl ?_
  refine or_lv (lwv b x m o i) rfl ?_
  exact or_wd (by omega) (by omega) (tl _ _ _ _ hst)
set_option maxRecDepth 100000 in
set_option maxHeartbeats 400000 in
theorem lc_35 {X : ow_X} {cs sl : Nat} {Z : Nat → Nat} {b L i x m o B z : Nat} {xs : Nat → Int32} {S : Nat → Option ow_Sh} {I : ow_I} {V : Nat → Nat → Value} (W : lwE X Z b L xs) (hI : lwI Z x m o B S I V) (hB : B + 4000 < 2 ^ 29) (hi : i + 6 ≤ L) (hc : cs + 44 ≤ 601024) (hs : sl + 5596 ≤ 7293034) (tl : ∀ (S1 : Nat → Option ow_Sh) (I1 : ow_I) (V1 : Nat → Nat → Value) (z1 : Nat), lwI Z x m o (B + 4000) S1 I1 V1 → ow_W X (cs + 44) (sl + 5596) (S1, I1, V1, z1) 3148 (lwv b x m o i) []) : ow_W X cs sl (S, I, V, z) 1688 (lwv b x m o i) [] := by
  obtain ⟨E, G, GS, hL⟩ := id W
  have hX := hI.2.2.1.1.1
  refine or_aload_n (j := 1) E rfl dL_law_1688 ?_
  refine or_arg (j := 1) W rfl rfl dL_law_1689 dL_law_1690 dL_law_1692 dL_law_1693 dL_law_1694 (by omega) ?_
  refine or_aload_n (j := 3) E rfl dL_law_1695 ?_
  refine oy_S (st := []) [.ref x, .int (xs (i + 1)), .ref o] (wL_greatestLength (cA_greatestLength hI.1.1 hX.1) hI.1.1.1 (fun r h0 hk => wr_I hI.1.2.2.1 hk) (fun c' h1 h0 hk => by rw [wk_c hk] at h0 ⊢; exact tc_greatestLength.resolve_left (by omega))) E G lh_L_285 dL_law_1696 rfl (by decide) (by decide) ⟨by omega, by omega⟩ (Nat.le_of_ble_eq_true rfl) (fun r h1 hk => ?_)
  obtain ⟨rfl, V1, z1, rfl, -, hv0, hvo⟩ := wK_I hk
  refine or_istore E dL_law_1699 (by decide) ?_
  have hg := @fA_r x I
  have hJ := lw_J hI hg
  have hr := q_greatestLength (b := (xs (i + 1))) hJ
  refine or_aload_n (j := 2) E rfl dL_law_1701 ?_
  refine or_arg (j := 1) W rfl rfl dL_law_1702 dL_law_1703 dL_law_1705 dL_law_1706 dL_law_1707 (by omega) ?_
  refine or_cV1r (cM_greatestLength hI.1.2.1 hJ.2.1.2.1) E lk_L_287 dL_law_1708 hI.1.2.1.1 rfl rfl (by decide) (by decide) ⟨by omega, by omega⟩ (Nat.le_of_ble_eq_true rfl) ?_
  refine or_istore E dL_law_1711 (by decide) ?_
  have hst := lw_step hI hg (RR_up hr.1 (show B ≤ B + 4000 by omega)) (fM_greatestLength (a := (xs (i + 1)))) (lw_V0 hI (fun b hb => hvo b (by omega))) (lw_V2 hI (fun b hb => hvo b (by omega)))
  refine or_fin W hI.1.2.1 hr.2.1 (kx_lt (by decide)) hI.1.2.2.1 (fun hz => by rw [hv0 (kx_z hz), hr.2.2 (kx_z hz)]) rfl rfl rfl rfl (by omega) (by omega) dL_law_1713 dL_law_1714 dL_law_1717 dL_law_1719 dL_law_1724 dL_law_1726 dL_law_1729 dL_law_1730 dL_law_1731 dL_law_1732 dL_law_1734 dL_law_1735 dL_law_1736 ?_
  refine or_goto 3148 E dL_law_1741 rfl ?_
  refine or_lv (lwv b x m o i) rfl ?_
  exact or_wd (by omega) (by omega) (tl _ _ _ _ hst)
