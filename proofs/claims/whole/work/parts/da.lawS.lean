/-! THE LAW'S CASES of doubles, of saveSnapshot and of the output (laid by wip/whole/mach/spec.py) -/
theorem fp_fd {x y : Int32} (h : ¬ y = 0) : vf_n64 (FP.f2d (FP.fdiv (FP.i2f x) (FP.i2f y))) :=
  n64_of ((Jvm.FP.f2d_nan _).trans (Jvm.FP.Core.fdiv_out (a := Jvm.FP.Core.i2f x) (b := Jvm.FP.Core.i2f y) (Jvm.FP.Core.i2f_fin x).notNaN (Jvm.FP.Core.i2f_fin y) (fun hz => Jvm.FP.Core.i2f_ne_zero h ((Jvm.FP.Core.zero_bits232 _).mp hz))))
theorem nan_of {r : UInt64} (h : vf_n64 r) : Jvm.FP.Core.dIsNaN r = false := by
  unfold vf_n64 at h
  rw [UInt64.le_iff_toNat_le, UInt64.toNat_and, show (0x7fffffffffffffff : UInt64).toNat = 2 ^ 63 - 1 by decide, show (0x7ff0000000000000 : UInt64).toNat = 9218868437227405312 by decide, Nat.and_two_pow_sub_one_eq_mod] at h
  cases e : Jvm.FP.Core.dIsNaN r
  · rfl
  · have := (Jvm.FP.Core.isNaN_bits r).mp e
    omega
theorem cmp_0 {a : UInt64} (h : vf_n64 a) : Op.cmpValue (FP.dcmp a a) .l = 0 := by
  rw [show FP.dcmp a a = some .eq from Jvm.FP.Core.dcmp_self ((Jvm.FP.Core.notNaN_iff a).mp (nan_of h))]
  rfl
theorem fp_z0 : vf_n64 (FP.f2d 0) := n64_of (by decide +kernel)
theorem fp_c0 : vf_n64 (FP.f2d FP.fconst0) := n64_of (by decide +kernel)
theorem n_ppl {x : Nat} {b : Int32} {I : ow_I} : vf_n64 (FP.f2d (A_pricePerLength x b I).2) := by
  unfold A_pricePerLength
  by_cases h1 : A_barrelAt x b I = 0
  · rw [if_pos h1]
    by_cases h2 : I (x + 1 + 11 + 2 * (tn b)) 7 = nI 2
    · rw [if_pos h2]
      by_cases h3 : I (x + 1 + 11 + 2 * (tn b)) 2 = 0
      · rw [if_pos h3]
        exact fp_c0
      · rw [if_neg h3]
        exact fp_fd h3
    · rw [if_neg h2]
      exact fp_c0
  · rw [if_neg h1]
    exact fp_z0
theorem n_ssL {x : Nat} : ∀ (n : Nat) (I : ow_I) (c i : Nat), vf_n64 (FP.f2d (A_soldShare_L4 x n I c i)) := by
  intro n
  induction n with
  | zero => intro I c i; exact fp_z0
  | succ n ih =>
    intro I c i
    unfold A_soldShare_L4
    split
    · split
      · exact fp_c0
      · rename_i h
        exact fp_fd h
    · split <;> exact ih _ _ _
theorem n_ss {x : Nat} {I : ow_I} : vf_n64 (FP.f2d (A_soldShare x I)) := n_ssL _ _ _ _
set_option maxRecDepth 100000 in
set_option maxHeartbeats 400000 in
theorem lc_16 {X : ow_X} {cs sl : Nat} {Z : Nat → Nat} {b L i x m o B z : Nat} {xs : Nat → Int32} {S : Nat → Option ow_Sh} {I : ow_I} {V : Nat → Nat → Value} (W : lwE X Z b L xs) (hI : lwI Z x m o B S I V) (hB : B + 4000 < 2 ^ 29) (hi : i + 6 ≤ L) (hc : cs + 44 ≤ 601024) (hs : sl + 5596 ≤ 7293034) (tl : ∀ (S1 : Nat → Option ow_Sh) (I1 : ow_I) (V1 : Nat → Nat → Value) (z1 : Nat), lwI Z x m o (B + 4000) S1 I1 V1 → ow_W X (cs + 44) (sl + 5596) (S1, I1, V1, z1) 3148 (lwv b x m o i) []) : ow_W X cs sl (S, I, V, z) 1222 (lwv b x m o i) [] := by
  obtain ⟨E, G, GS, hL⟩ := id W
  have hX := hI.2.2.1.1.1
  refine or_aload_n (j := 1) E rfl dL_law_1222 ?_
  refine or_arg (j := 1) W rfl rfl dL_law_1223 dL_law_1224 dL_law_1226 dL_law_1227 dL_law_1228 (by omega) ?_
  refine oy_S (st := []) [.ref x, .int (xs (i + 1))] (wL_saveSnapshot (cA_saveSnapshot hI.1.1 hX) hI.1.1.1 (fun r h0 hk => wr_N hk) (fun c' h1 h0 hk => by rw [wk_c hk] at h0 ⊢; exact tc_saveSnapshot.resolve_left (by omega))) E G lh_L_212 dL_law_1229 rfl (by decide) (by decide) ⟨by omega, by omega⟩ (Nat.le_of_ble_eq_true rfl) (fun r h1 hk => ?_)
  obtain ⟨rfl, z1, rfl, -⟩ := wK_N hk
  refine or_istore E dL_law_1232 (by decide) ?_
  have hA := fA_saveSnapshot (x := x) (I := I) (s := xs (i + 1)) hX hI.2.2.1
  have hg := fA_gh hA
  have hJ := lw_J hI hg
  have hr := r_saveSnapshot (s := xs (i + 1)) hJ
  refine or_ghs (gh_S (I := I) hI.1.1) ?_
  refine or_aload_n (j := 2) E rfl dL_law_1234 ?_
  refine or_arg (j := 1) W rfl rfl dL_law_1235 dL_law_1236 dL_law_1238 dL_law_1239 dL_law_1240 (by omega) ?_
  refine or_cV1v (cM_saveSnapshot hI.1.2.1) E lk_L_215 dL_law_1241 hI.1.2.1.1 rfl rfl (by decide) (by decide) ⟨by omega, by omega⟩ (Nat.le_of_ble_eq_true rfl) ?_
  have hst := lw_step hI hg (RR_up (RR_gh hr.1 hI.2.2.1.1.2) (show B ≤ B + 4000 by omega)) fM_saveSnapshot (lw_V hI (fun _ _ => rfl)) (lw_V2 hI (fun _ _ => rfl))
  refine or_thr (n := 1255) W hI.1.2.1 hr.2.1 rfl rfl (by omega) (by omega) 5 dL_law_1244 dL_law_1245 dL_law_1248 dL_law_1250 rfl ?_
  refine or_goto 3148 E dL_law_1255 rfl ?_
  refine or_lv (lwv b x m o i) rfl ?_
  exact or_wd (by omega) (by omega) (tl _ _ _ _ hst)
set_option maxRecDepth 100000 in
set_option maxHeartbeats 400000 in
theorem lc_42 {X : ow_X} {cs sl : Nat} {Z : Nat → Nat} {b L i x m o B z : Nat} {xs : Nat → Int32} {S : Nat → Option ow_Sh} {I : ow_I} {V : Nat → Nat → Value} (W : lwE X Z b L xs) (hI : lwI Z x m o B S I V) (hB : B + 4000 < 2 ^ 29) (hi : i + 6 ≤ L) (hc : cs + 44 ≤ 601024) (hs : sl + 5596 ≤ 7293034) (tl : ∀ (S1 : Nat → Option ow_Sh) (I1 : ow_I) (V1 : Nat → Nat → Value) (z1 : Nat), lwI Z x m o (B + 4000) S1 I1 V1 → ow_W X (cs + 44) (sl + 5596) (S1, I1, V1, z1) 3148 (lwv b x m o i) []) : ow_W X cs sl (S, I, V, z) 2080 (lwv b x m o i) [] := by
  obtain ⟨E, G, GS, hL⟩ := id W
  have hX := hI.2.2.1.1.1
  refine or_aload_n (j := 1) E rfl dL_law_2080 ?_
  refine or_arg (j := 1) W rfl rfl dL_law_2081 dL_law_2082 dL_law_2084 dL_law_2085 dL_law_2086 (by omega) ?_
  refine or_aload E rfl dL_law_2087 ?_
  refine oy_S (st := []) [.ref x, .int (xs (i + 1)), .ref (o + 1)] (wL_pricePerLength (cA_pricePerLength hI.1.1 hX) hI.1.1.1 (fun r h0 hk => wr_F hI.1.2.2.2 (fun _ => n_ppl) hk) (fun c' h1 h0 hk => by rw [wk_c hk] at h0 ⊢; exact tc_pricePerLength.resolve_left (by omega))) E G lh_L_306 dL_law_2089 rfl (by decide) (by decide) ⟨by omega, by omega⟩ (Nat.le_of_ble_eq_true rfl) (fun r h1 hk => ?_)
  obtain ⟨rfl, V1, z1, rfl, -, hv0, hvo⟩ := wK_F hk
  refine or_istore E dL_law_2092 (by decide) ?_
  have hg := @fA_r x I
  have hJ := lw_J hI hg
  have hr := q_pricePerLength (b := (xs (i + 1))) hJ
  refine or_aload_n (j := 2) E rfl dL_law_2094 ?_
  refine or_arg (j := 1) W rfl rfl dL_law_2095 dL_law_2096 dL_law_2098 dL_law_2099 dL_law_2100 (by omega) ?_
  refine or_cV1r (cM_pricePerLength hI.1.2.1 hJ.2.1.2.1 (fun k hk => tot_0 hJ hk)) E lk_L_309 dL_law_2101 hI.1.2.1.1 rfl rfl (by decide) (by decide) ⟨by omega, by omega⟩ (Nat.le_of_ble_eq_true rfl) ?_
  refine or_fstore E dL_law_2104 (by decide) ?_
  have hst := lw_step hI hg (RR_up hr.1 (show B ≤ B + 4000 by omega)) (fM_pricePerLength (a := (xs (i + 1)))) (lw_V0 hI (fun b hb => hvo b (by omega))) (lw_V2 hI (fun b hb => hvo b (by omega)))
  have fin : ow_W X (cs + 44) (sl + 5596) (S, _, V1, z1) 2155 (lwv b x m o i) [] := or_goto 3148 E dL_law_2155 rfl (tl _ _ _ _ hst)
  refine or_thr (n := 2117) W hI.1.2.1 hr.2.1 rfl rfl (by omega) (by omega) 5 dL_law_2106 dL_law_2107 dL_law_2110 dL_law_2112 rfl ?_
  refine or_iload E rfl dL_law_2117 ?_
  refine or_if_neN 2155 E dL_law_2119 rfl (Nat.lt_trans (kx_lt (by decide)) (by decide)) (fun _ => or_lv (lwv b x m o i) rfl (or_wd (by omega) (by omega) fin)) (fun hz => ?_)
  have hv := hv0 (kx_z hz)
  have hw := hr.2.2 (kx_z hz)
  rw [← hw]
  refine or_aload E rfl dL_law_2122 ?_
  refine or_iconst (v := nI 0) E rfl dL_law_2124 ?_
  refine or_dald (j := 0) E dL_law_2125 hI.1.2.2.2 rfl hv rfl (by decide) (by decide) ?_
  refine or_fload E rfl dL_law_2126 ?_
  refine or_f2d E n_ppl dL_law_2128 ?_
  refine or_dcmp E dL_law_2129 ?_
  exact or_if_eq 2155 E dL_law_2130 rfl (fun _ => or_lv (lwv b x m o i) rfl (or_wd (by omega) (by omega) fin)) (fun hne => (hne (cmp_0 n_ppl)).elim)
set_option maxRecDepth 100000 in
set_option maxHeartbeats 400000 in
theorem lc_49 {X : ow_X} {cs sl : Nat} {Z : Nat → Nat} {b L i x m o B z : Nat} {xs : Nat → Int32} {S : Nat → Option ow_Sh} {I : ow_I} {V : Nat → Nat → Value} (W : lwE X Z b L xs) (hI : lwI Z x m o B S I V) (hB : B + 4000 < 2 ^ 29) (hi : i + 6 ≤ L) (hc : cs + 44 ≤ 601024) (hs : sl + 5596 ≤ 7293034) (tl : ∀ (S1 : Nat → Option ow_Sh) (I1 : ow_I) (V1 : Nat → Nat → Value) (z1 : Nat), lwI Z x m o (B + 4000) S1 I1 V1 → ow_W X (cs + 44) (sl + 5596) (S1, I1, V1, z1) 3148 (lwv b x m o i) []) : ow_W X cs sl (S, I, V, z) 2451 (lwv b x m o i) [] := by
  obtain ⟨E, G, GS, hL⟩ := id W
  have hX := hI.2.2.1.1.1
  refine or_aload_n (j := 1) E rfl dL_law_2451 ?_
  refine or_arg (j := 1) W rfl rfl dL_law_2452 dL_law_2453 dL_law_2455 dL_law_2456 dL_law_2457 (by omega) ?_
  refine or_arg (j := 2) W rfl rfl dL_law_2458 dL_law_2459 dL_law_2461 dL_law_2462 dL_law_2463 (by omega) ?_
  refine or_aload E rfl dL_law_2464 ?_
  refine oy_S (st := []) [.ref x, .int (xs (i + 1)), .int (xs (i + 2)), .ref (o + 1)] (wL_worth (cA_worth hI.1.1 hX) hI.1.1.1 (fun r h0 hk => wr_D hI.1.2.2.2 hk) (fun c' h1 h0 hk => by rw [wk_c hk] at h0 ⊢; exact tc_worth.resolve_left (by omega))) E G lh_L_329 dL_law_2466 rfl (by decide) (by decide) ⟨by omega, by omega⟩ (Nat.le_of_ble_eq_true rfl) (fun r h1 hk => ?_)
  obtain ⟨rfl, V1, z1, rfl, -, hv0, hvo⟩ := wK_D hk
  refine or_istore E dL_law_2469 (by decide) ?_
  have hg := @fA_r x I
  have hJ := lw_J hI hg
  have hr := q_worth (y := (xs (i + 1))) (b := (xs (i + 2))) hJ
  refine or_aload_n (j := 2) E rfl dL_law_2471 ?_
  refine or_arg (j := 1) W rfl rfl dL_law_2472 dL_law_2473 dL_law_2475 dL_law_2476 dL_law_2477 (by omega) ?_
  refine or_arg (j := 2) W rfl rfl dL_law_2478 dL_law_2479 dL_law_2481 dL_law_2482 dL_law_2483 (by omega) ?_
  refine or_cV2r (cM_worth hI.1.2.1 hJ.2.1.2.1) E lk_L_332 dL_law_2484 hI.1.2.1.1 rfl rfl (by decide) (by decide) ⟨by omega, by omega⟩ (Nat.le_of_ble_eq_true rfl) ?_
  refine or_dstore E dL_law_2487 (by decide) ?_
  have hst := lw_step hI hg (RR_up hr.1 (show B ≤ B + 4000 by omega)) (fM_worth (a := (xs (i + 1))) (b := (xs (i + 2)))) (lw_V0 hI (fun b hb => hvo b (by omega))) (lw_V2 hI (fun b hb => hvo b (by omega)))
  have fin : ow_W X (cs + 44) (sl + 5596) (S, _, V1, z1) 2537 (lwv b x m o i) [] := or_goto 3148 E dL_law_2537 rfl (tl _ _ _ _ hst)
  refine or_thr (n := 2500) W hI.1.2.1 hr.2.1 rfl rfl (by omega) (by omega) 5 dL_law_2489 dL_law_2490 dL_law_2493 dL_law_2495 rfl ?_
  refine or_iload E rfl dL_law_2500 ?_
  refine or_if_neN 2537 E dL_law_2502 rfl (Nat.lt_trans (kx_lt (by decide)) (by decide)) (fun _ => or_lv (lwv b x m o i) rfl (or_wd (by omega) (by omega) fin)) (fun hz => ?_)
  have hv := hv0 (kx_z hz)
  have hw := hr.2.2 (kx_z hz)
  rw [← hw]
  refine or_aload E rfl dL_law_2505 ?_
  refine or_iconst (v := nI 0) E rfl dL_law_2507 ?_
  refine or_dald (j := 0) E dL_law_2508 hI.1.2.2.2 rfl hv rfl (by decide) (by decide) ?_
  refine or_dload E rfl dL_law_2509 ?_
  refine or_dcmp E dL_law_2511 ?_
  refine or_if_eq 2537 E dL_law_2512 rfl (fun _ => or_lv (lwv b x m o i) rfl (or_wd (by omega) (by omega) fin)) (fun hne => ?_)
  refine or_aload E rfl dL_law_2515 ?_
  refine or_iconst (v := nI 0) E rfl dL_law_2517 ?_
  refine or_dald (j := 0) E dL_law_2518 hI.1.2.2.2 rfl hv rfl (by decide) (by decide) ?_
  refine or_aload E rfl dL_law_2519 ?_
  refine or_iconst (v := nI 0) E rfl dL_law_2521 ?_
  refine or_dald (j := 0) E dL_law_2522 hI.1.2.2.2 rfl hv rfl (by decide) (by decide) ?_
  refine or_dcmp E dL_law_2523 ?_
  refine or_if_eq 2535 E dL_law_2524 rfl (fun he => (hne he).elim) (fun _ => ?_)
  refine or_dload E rfl dL_law_2527 ?_
  refine or_dload E rfl dL_law_2529 ?_
  refine or_dcmp E dL_law_2531 ?_
  exact or_if_ne 2537 E dL_law_2532 rfl (fun _ => or_lv (lwv b x m o i) rfl (or_wd (by omega) (by omega) fin)) (fun he => (hne he).elim)
set_option maxRecDepth 100000 in
set_option maxHeartbeats 400000 in
theorem lc_59 {X : ow_X} {cs sl : Nat} {Z : Nat → Nat} {b L i x m o B z : Nat} {xs : Nat → Int32} {S : Nat → Option ow_Sh} {I : ow_I} {V : Nat → Nat → Value} (W : lwE X Z b L xs) (hI : lwI Z x m o B S I V) (hB : B + 4000 < 2 ^ 29) (hi : i + 6 ≤ L) (hc : cs + 44 ≤ 601024) (hs : sl + 5596 ≤ 7293034) (tl : ∀ (S1 : Nat → Option ow_Sh) (I1 : ow_I) (V1 : Nat → Nat → Value) (z1 : Nat), lwI Z x m o (B + 4000) S1 I1 V1 → ow_W X (cs + 44) (sl + 5596) (S1, I1, V1, z1) 3148 (lwv b x m o i) []) : ow_W X cs sl (S, I, V, z) 2970 (lwv b x m o i) [] := by
  obtain ⟨E, G, GS, hL⟩ := id W
  have hX := hI.2.2.1.1.1
  refine or_aload_n (j := 1) E rfl dL_law_2970 ?_
  refine oy_V (st := []) [] (cA_meanLength hI.1.1 hX) E G lk_L_362 dL_law_2971 hI.1.1.1 rfl rfl rfl (by decide) (by decide) ⟨by omega, by omega⟩ (Nat.le_of_ble_eq_true rfl) oy_no (fun r h1 hk => ?_)
  obtain ⟨rfl, rfl⟩ := oy_eq hk
  have hJ := hI.2.2.1
  have hq := q_meanLength hJ
  refine or_dstore E dL_law_2974 (by decide) ?_
  refine or_aload_n (j := 2) E rfl dL_law_2976 ?_
  refine or_cV0r (cM_meanLength hI.1.2.1 hJ.2.1.2.1) E lk_L_366 dL_law_2977 hI.1.2.1.1 rfl rfl (by decide) (by decide) ⟨by omega, by omega⟩ (Nat.le_of_ble_eq_true rfl) ?_
  have hst := lw_step hI fA_r (RR_up hq.2 (show B ≤ B + 4000 by omega)) fM_meanLength hI.2.2.2.1 rfl
  rw [← hq.1]
  refine or_dstore E dL_law_2980 (by decide) ?_
  have fin : ow_W X (cs + 44) (sl + 5596) (S, _, V, z) 3008 (lwv b x m o i) [] := or_goto 3148 E dL_law_3008 rfl (tl _ _ _ _ hst)
  refine or_dload E rfl dL_law_2982 ?_
  refine or_dload E rfl dL_law_2984 ?_
  refine or_dcmp E dL_law_2986 ?_
  refine or_if_eq 3008 E dL_law_2987 rfl (fun _ => or_lv (lwv b x m o i) rfl (or_wd (by omega) (by omega) fin)) (fun hne => ?_)
  refine or_dload E rfl dL_law_2990 ?_
  refine or_dload E rfl dL_law_2992 ?_
  refine or_dcmp E dL_law_2994 ?_
  refine or_if_eq 3006 E dL_law_2995 rfl (fun he => (hne he).elim) (fun _ => ?_)
  refine or_dload E rfl dL_law_2998 ?_
  refine or_dload E rfl dL_law_3000 ?_
  refine or_dcmp E dL_law_3002 ?_
  exact or_if_ne 3008 E dL_law_3003 rfl (fun _ => or_lv (lwv b x m o i) rfl (or_wd (by omega) (by omega) fin)) (fun he => (hne he).elim)
set_option maxRecDepth 100000 in
set_option maxHeartbeats 400000 in
theorem lc_60 {X : ow_X} {cs sl : Nat} {Z : Nat → Nat} {b L i x m o B z : Nat} {xs : Nat → Int32} {S : Nat → Option ow_Sh} {I : ow_I} {V : Nat → Nat → Value} (W : lwE X Z b L xs) (hI : lwI Z x m o B S I V) (hB : B + 4000 < 2 ^ 29) (hi : i + 6 ≤ L) (hc : cs + 44 ≤ 601024) (hs : sl + 5596 ≤ 7293034) (tl : ∀ (S1 : Nat → Option ow_Sh) (I1 : ow_I) (V1 : Nat → Nat → Value) (z1 : Nat), lwI Z x m o (B + 4000) S1 I1 V1 → ow_W X (cs + 44) (sl + 5596) (S1, I1, V1, z1) 3148 (lwv b x m o i) []) : ow_W X cs sl (S, I, V, z) 3011 (lwv b x m o i) [] := by
  obtain ⟨E, G, GS, hL⟩ := id W
  have hX := hI.2.2.1.1.1
  refine or_aload_n (j := 1) E rfl dL_law_3011 ?_
  refine oy_V (st := []) [] (cA_soldShare hI.1.1 hX) E G lk_L_367 dL_law_3012 hI.1.1.1 rfl rfl rfl (by decide) (by decide) ⟨by omega, by omega⟩ (Nat.le_of_ble_eq_true rfl) oy_no (fun r h1 hk => ?_)
  obtain ⟨rfl, rfl⟩ := oy_eq hk
  have hJ := hI.2.2.1
  have hq := q_soldShare hJ
  refine or_f2d E n_ss dL_law_3015 ?_
  refine or_dstore E dL_law_3016 (by decide) ?_
  refine or_aload_n (j := 2) E rfl dL_law_3018 ?_
  refine or_cV0r (cM_soldShare hI.1.2.1 hJ.2.1.2.1) E lk_L_371 dL_law_3019 hI.1.2.1.1 rfl rfl (by decide) (by decide) ⟨by omega, by omega⟩ (Nat.le_of_ble_eq_true rfl) ?_
  have hst := lw_step hI fA_r (RR_up hq.2 (show B ≤ B + 4000 by omega)) fM_soldShare hI.2.2.2.1 rfl
  rw [← hq.1]
  refine or_f2d E n_ss dL_law_3022 ?_
  refine or_dstore E dL_law_3023 (by decide) ?_
  have fin : ow_W X (cs + 44) (sl + 5596) (S, _, V, z) 3051 (lwv b x m o i) [] := or_goto 3148 E dL_law_3051 rfl (tl _ _ _ _ hst)
  refine or_dload E rfl dL_law_3025 ?_
  refine or_dload E rfl dL_law_3027 ?_
  refine or_dcmp E dL_law_3029 ?_
  refine or_if_eq 3051 E dL_law_3030 rfl (fun _ => or_lv (lwv b x m o i) rfl (or_wd (by omega) (by omega) fin)) (fun hne => ?_)
  refine or_dload E rfl dL_law_3033 ?_
  refine or_dload E rfl dL_law_3035 ?_
  refine or_dcmp E dL_law_3037 ?_
  refine or_if_eq 3049 E dL_law_3038 rfl (fun he => (hne he).elim) (fun _ => ?_)
  refine or_dload E rfl dL_law_3041 ?_
  refine or_dload E rfl dL_law_3043 ?_
  refine or_dcmp E dL_law_3045 ?_
  exact or_if_ne 3051 E dL_law_3046 rfl (fun _ => or_lv (lwv b x m o i) rfl (or_wd (by omega) (by omega) fin)) (fun he => (hne he).elim)
