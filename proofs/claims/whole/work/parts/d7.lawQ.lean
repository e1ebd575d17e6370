set_option maxRecDepth 100000 in
set_option maxHeartbeats 400000 in
theorem lc_2 {X : ow_X} {cs sl : Nat} {Z : Nat → Nat} {b L i x m o B z : Nat} {xs : Nat → Int32} {S : Nat → Option ow_Sh} {I : ow_I} {V : Nat → Nat → Value} (W : lwE X Z b L xs) (hI : lwI Z x m o B S I V) (hB : B + 4000 < 2 ^ 29) (hi : i + 6 ≤ L) (hc : cs + 44 ≤ 601024) (hs : sl + 5596 ≤ 7293034) (tl : ∀ (S1 : Nat → Option ow_Sh) (I1 : ow_I) (V1 : Nat → Nat → Value) (z1 : Nat), lwI Z x m o (B + 4000) S1 I1 V1 → ow_W X (cs + 44) (sl + 5596) (S1, I1, V1, z1) 3148 (lwv b x m o i) []) : ow_W X cs sl (S, I, V, z) 476 (lwv b x m o i) [] := by
  obtain ⟨E, G, GS, hL⟩ := id W
  have hX := hI.2.2.1.1.1
  refine or_aload_n (j := 1) E rfl dL_law_476 ?_
  refine oy_V (st := []) [] (cA_errorCode hI.1.1) E G lk_L_165 dL_law_477 hI.1.1.1 rfl rfl rfl (by decide) (by decide) ⟨by omega, by omega⟩ (Nat.le_of_ble_eq_true rfl) oy_no (fun r h1 hk => ?_)
  obtain ⟨rfl, rfl⟩ := oy_eq hk
  refine or_aload_n (j := 2) E rfl dL_law_480 ?_
  have hJ := hI.2.2.1
  have hq := q_errorCode hJ
  refine or_cV0r (cM_errorCode hI.1.2.1) E lk_L_168 dL_law_481 hI.1.2.1.1 rfl rfl (by decide) (by decide) ⟨by omega, by omega⟩ (Nat.le_of_ble_eq_true rfl) ?_
  have hst := lw_step hI fA_r (RR_up hq.2 (show B ≤ B + 4000 by omega)) fM_errorCode hI.2.2.2.1 rfl
  refine or_icmp_eq 3148 E dL_law_484 rfl (fun _ => ?_) (fun hne => (hne (by rw [hq.1])).elim)
  exact or_wd (by omega) (by omega) (tl _ _ _ _ hst)
set_option maxRecDepth 100000 in
set_option maxHeartbeats 400000 in
theorem lc_3 {X : ow_X} {cs sl : Nat} {Z : Nat → Nat} {b L i x m o B z : Nat} {xs : Nat → Int32} {S : Nat → Option ow_Sh} {I : ow_I} {V : Nat → Nat → Value} (W : lwE X Z b L xs) (hI : lwI Z x m o B S I V) (hB : B + 4000 < 2 ^ 29) (hi : i + 6 ≤ L) (hc : cs + 44 ≤ 601024) (hs : sl + 5596 ≤ 7293034) (tl : ∀ (S1 : Nat → Option ow_Sh) (I1 : ow_I) (V1 : Nat → Nat → Value) (z1 : Nat), lwI Z x m o (B + 4000) S1 I1 V1 → ow_W X (cs + 44) (sl + 5596) (S1, I1, V1, z1) 3148 (lwv b x m o i) []) : ow_W X cs sl (S, I, V, z) 489 (lwv b x m o i) [] := by
  obtain ⟨E, G, GS, hL⟩ := id W
  have hX := hI.2.2.1.1.1
  refine or_aload_n (j := 1) E rfl dL_law_489 ?_
  refine oy_V (st := []) [] (cA_errorPosition hI.1.1) E G lk_L_169 dL_law_490 hI.1.1.1 rfl rfl rfl (by decide) (by decide) ⟨by omega, by omega⟩ (Nat.le_of_ble_eq_true rfl) oy_no (fun r h1 hk => ?_)
  obtain ⟨rfl, rfl⟩ := oy_eq hk
  refine or_aload_n (j := 2) E rfl dL_law_493 ?_
  have hJ := hI.2.2.1
  have hq := q_errorPosition hJ
  refine or_cV0r (cM_errorPosition hI.1.2.1) E lk_L_172 dL_law_494 hI.1.2.1.1 rfl rfl (by decide) (by decide) ⟨by omega, by omega⟩ (Nat.le_of_ble_eq_true rfl) ?_
  have hst := lw_step hI fA_r (RR_up hq.2 (show B ≤ B + 4000 by omega)) fM_errorPosition hI.2.2.2.1 rfl
  refine or_icmp_eq 3148 E dL_law_497 rfl (fun _ => ?_) (fun hne => (hne (by rw [hq.1])).elim)
  exact or_wd (by omega) (by omega) (tl _ _ _ _ hst)
set_option maxRecDepth 100000 in
set_option maxHeartbeats 400000 in
theorem lc_18 {X : ow_X} {cs sl : Nat} {Z : Nat → Nat} {b L i x m o B z : Nat} {xs : Nat → Int32} {S : Nat → Option ow_Sh} {I : ow_I} {V : Nat → Nat → Value} (W : lwE X Z b L xs) (hI : lwI Z x m o B S I V) (hB : B + 4000 < 2 ^ 29) (hi : i + 6 ≤ L) (hc : cs + 44 ≤ 601024) (hs : sl + 5596 ≤ 7293034) (tl : ∀ (S1 : Nat → Option ow_Sh) (I1 : ow_I) (V1 : Nat → Nat → Value) (z1 : Nat), lwI Z x m o (B + 4000) S1 I1 V1 → ow_W X (cs + 44) (sl + 5596) (S1, I1, V1, z1) 3148 (lwv b x m o i) []) : ow_W X cs sl (S, I, V, z) 1314 (lwv b x m o i) [] := by
  obtain ⟨E, G, GS, hL⟩ := id W
  have hX := hI.2.2.1.1.1
  refine or_aload_n (j := 1) E rfl dL_law_1314 ?_
  refine oy_V (st := []) [] (cA_minute hI.1.1) E G lk_L_219 dL_law_1315 hI.1.1.1 rfl rfl rfl (by decide) (by decide) ⟨by omega, by omega⟩ (Nat.le_of_ble_eq_true rfl) oy_no (fun r h1 hk => ?_)
  obtain ⟨rfl, rfl⟩ := oy_eq hk
  refine or_aload_n (j := 2) E rfl dL_law_1318 ?_
  have hJ := hI.2.2.1
  have hq := q_minute hJ
  refine or_cV0r (cM_minute hI.1.2.1) E lk_L_222 dL_law_1319 hI.1.2.1.1 rfl rfl (by decide) (by decide) ⟨by omega, by omega⟩ (Nat.le_of_ble_eq_true rfl) ?_
  have hst := lw_step hI fA_r (RR_up hq.2 (show B ≤ B + 4000 by omega)) fM_minute hI.2.2.2.1 rfl
  refine or_icmp_eq 3148 E dL_law_1322 rfl (fun _ => ?_) (fun hne => (hne (by rw [hq.1])).elim)
  exact or_wd (by omega) (by omega) (tl _ _ _ _ hst)
set_option maxRecDepth 100000 in
set_option maxHeartbeats 400000 in
theorem lc_19 {X : ow_X} {cs sl : Nat} {Z : Nat → Nat} {b L i x m o B z : Nat} {xs : Nat → Int32} {S : Nat → Option ow_Sh} {I : ow_I} {V : Nat → Nat → Value} (W : lwE X Z b L xs) (hI : lwI Z x m o B S I V) (hB : B + 4000 < 2 ^ 29) (hi : i + 6 ≤ L) (hc : cs + 44 ≤ 601024) (hs : sl + 5596 ≤ 7293034) (tl : ∀ (S1 : Nat → Option ow_Sh) (I1 : ow_I) (V1 : Nat → Nat → Value) (z1 : Nat), lwI Z x m o (B + 4000) S1 I1 V1 → ow_W X (cs + 44) (sl + 5596) (S1, I1, V1, z1) 3148 (lwv b x m o i) []) : ow_W X cs sl (S, I, V, z) 1327 (lwv b x m o i) [] := by
  obtain ⟨E, G, GS, hL⟩ := id W
  have hX := hI.2.2.1.1.1
  refine or_aload_n (j := 1) E rfl dL_law_1327 ?_
  refine oy_V (st := []) [] (cA_isOpen hI.1.1) E G lk_L_223 dL_law_1328 hI.1.1.1 rfl rfl rfl (by decide) (by decide) ⟨by omega, by omega⟩ (Nat.le_of_ble_eq_true rfl) oy_no (fun r h1 hk => ?_)
  obtain ⟨rfl, rfl⟩ := oy_eq hk
  refine or_aload_n (j := 2) E rfl dL_law_1331 ?_
  have hJ := hI.2.2.1
  have hq := q_isOpen hJ
  refine or_cV0r (cM_isOpen hI.1.2.1 hJ.2.1.2.1) E lk_L_227 dL_law_1332 hI.1.2.1.1 rfl rfl (by decide) (by decide) ⟨by omega, by omega⟩ (Nat.le_of_ble_eq_true rfl) ?_
  have hst := lw_step hI fA_r (RR_up hq.2 (show B ≤ B + 4000 by omega)) fM_isOpen hI.2.2.2.1 rfl
  refine or_icmp_eq 3148 E dL_law_1335 rfl (fun _ => ?_) (fun hne => (hne (by rw [hq.1])).elim)
  exact or_wd (by omega) (by omega) (tl _ _ _ _ hst)
set_option maxRecDepth 100000 in
set_option maxHeartbeats 400000 in
theorem lc_20 {X : ow_X} {cs sl : Nat} {Z : Nat → Nat} {b L i x m o B z : Nat} {xs : Nat → Int32} {S : Nat → Option ow_Sh} {I : ow_I} {V : Nat → Nat → Value} (W : lwE X Z b L xs) (hI : lwI Z x m o B S I V) (hB : B + 4000 < 2 ^ 29) (hi : i + 6 ≤ L) (hc : cs + 44 ≤ 601024) (hs : sl + 5596 ≤ 7293034) (tl : ∀ (S1 : Nat → Option ow_Sh) (I1 : ow_I) (V1 : Nat → Nat → Value) (z1 : Nat), lwI Z x m o (B + 4000) S1 I1 V1 → ow_W X (cs + 44) (sl + 5596) (S1, I1, V1, z1) 3148 (lwv b x m o i) []) : ow_W X cs sl (S, I, V, z) 1340 (lwv b x m o i) [] := by
  obtain ⟨E, G, GS, hL⟩ := id W
  have hX := hI.2.2.1.1.1
  refine or_aload_n (j := 1) E rfl dL_law_1340 ?_
  refine oy_V (st := []) [] (cA_minutesToHorn hI.1.1) E G lk_L_228 dL_law_1341 hI.1.1.1 rfl rfl rfl (by decide) (by decide) ⟨by omega, by omega⟩ (Nat.le_of_ble_eq_true rfl) oy_no (fun r h1 hk => ?_)
  obtain ⟨rfl, rfl⟩ := oy_eq hk
  refine or_aload_n (j := 2) E rfl dL_law_1344 ?_
  have hJ := hI.2.2.1
  have hq := q_minutesToHorn hJ (by omega)
  refine or_cV0r (cM_minutesToHorn hI.1.2.1 hJ.2.1.2.1 (lw_0 hJ).1 (lw_0 hJ).2) E lk_L_231 dL_law_1345 hI.1.2.1.1 rfl rfl (by decide) (by decide) ⟨by omega, by omega⟩ (Nat.le_of_ble_eq_true rfl) ?_
  have hst := lw_step hI fA_r (RR_up hq.2 (show B ≤ B + 4000 by omega)) fM_minutesToHorn hI.2.2.2.1 rfl
  refine or_icmp_eq 3148 E dL_law_1348 rfl (fun _ => ?_) (fun hne => (hne (by rw [hq.1])).elim)
  exact or_wd (by omega) (by omega) (tl _ _ _ _ hst)
set_option maxRecDepth 100000 in
set_option maxHeartbeats 400000 in
theorem lc_21 {X : ow_X} {cs sl : Nat} {Z : Nat → Nat} {b L i x m o B z : Nat} {xs : Nat → Int32} {S : Nat → Option ow_Sh} {I : ow_I} {V : Nat → Nat → Value} (W : lwE X Z b L xs) (hI : lwI Z x m o B S I V) (hB : B + 4000 < 2 ^ 29) (hi : i + 6 ≤ L) (hc : cs + 44 ≤ 601024) (hs : sl + 5596 ≤ 7293034) (tl : ∀ (S1 : Nat → Option ow_Sh) (I1 : ow_I) (V1 : Nat → Nat → Value) (z1 : Nat), lwI Z x m o (B + 4000) S1 I1 V1 → ow_W X (cs + 44) (sl + 5596) (S1, I1, V1, z1) 3148 (lwv b x m o i) []) : ow_W X cs sl (S, I, V, z) 1353 (lwv b x m o i) [] := by
  obtain ⟨E, G, GS, hL⟩ := id W
  have hX := hI.2.2.1.1.1
  refine or_aload_n (j := 1) E rfl dL_law_1353 ?_
  refine oy_V (st := []) [] (cA_step hI.1.1) E G lk_L_232 dL_law_1354 hI.1.1.1 rfl rfl rfl (by decide) (by decide) ⟨by omega, by omega⟩ (Nat.le_of_ble_eq_true rfl) oy_no (fun r h1 hk => ?_)
  obtain ⟨rfl, rfl⟩ := oy_eq hk
  refine or_aload_n (j := 2) E rfl dL_law_1357 ?_
  have hJ := hI.2.2.1
  have hq := q_step hJ
  refine or_cV0r (cM_step hI.1.2.1) E lk_L_235 dL_law_1358 hI.1.2.1.1 rfl rfl (by decide) (by decide) ⟨by omega, by omega⟩ (Nat.le_of_ble_eq_true rfl) ?_
  have hst := lw_step hI fA_r (RR_up hq.2 (show B ≤ B + 4000 by omega)) fM_step hI.2.2.2.1 rfl
  refine or_icmp_eq 3148 E dL_law_1361 rfl (fun _ => ?_) (fun hne => (hne (by rw [hq.1])).elim)
  exact or_wd (by omega) (by omega) (tl _ _ _ _ hst)
set_option maxRecDepth 100000 in
set_option maxHeartbeats 400000 in
theorem lc_22 {X : ow_X} {cs sl : Nat} {Z : Nat → Nat} {b L i x m o B z : Nat} {xs : Nat → Int32} {S : Nat → Option ow_Sh} {I : ow_I} {V : Nat → Nat → Value} (W : lwE X Z b L xs) (hI : lwI Z x m o B S I V) (hB : B + 4000 < 2 ^ 29) (hi : i + 6 ≤ L) (hc : cs + 44 ≤ 601024) (hs : sl + 5596 ≤ 7293034) (tl : ∀ (S1 : Nat → Option ow_Sh) (I1 : ow_I) (V1 : Nat → Nat → Value) (z1 : Nat), lwI Z x m o (B + 4000) S1 I1 V1 → ow_W X (cs + 44) (sl + 5596) (S1, I1, V1, z1) 3148 (lwv b x m o i) []) : ow_W X cs sl (S, I, V, z) 1366 (lwv b x m o i) [] := by
  obtain ⟨E, G, GS, hL⟩ := id W
  have hX := hI.2.2.1.1.1
  refine or_aload_n (j := 1) E rfl dL_law_1366 ?_
  refine oy_V (st := []) [] (cA_sellerCoins hI.1.1) E G lk_L_236 dL_law_1367 hI.1.1.1 rfl rfl rfl (by decide) (by decide) ⟨by omega, by omega⟩ (Nat.le_of_ble_eq_true rfl) oy_no (fun r h1 hk => ?_)
  obtain ⟨rfl, rfl⟩ := oy_eq hk
  refine or_aload_n (j := 2) E rfl dL_law_1370 ?_
  have hJ := hI.2.2.1
  have hq := q_sellerCoins hJ
  refine or_cV0r (cM_sellerCoins hI.1.2.1) E lk_L_239 dL_law_1371 hI.1.2.1.1 rfl rfl (by decide) (by decide) ⟨by omega, by omega⟩ (Nat.le_of_ble_eq_true rfl) ?_
  have hst := lw_step hI fA_r (RR_up hq.2 (show B ≤ B + 4000 by omega)) fM_sellerCoins hI.2.2.2.1 rfl
  refine or_icmp_eq 3148 E dL_law_1374 rfl (fun _ => ?_) (fun hne => (hne (by rw [hq.1])).elim)
  exact or_wd (by omega) (by omega) (tl _ _ _ _ hst)
set_option maxRecDepth 100000 in
set_option maxHeartbeats 400000 in
theorem lc_23 {X : ow_X} {cs sl : Nat} {Z : Nat → Nat} {b L i x m o B z : Nat} {xs : Nat → Int32} {S : Nat → Option ow_Sh} {I : ow_I} {V : Nat → Nat → Value} (W : lwE X Z b L xs) (hI : lwI Z x m o B S I V) (hB : B + 4000 < 2 ^ 29) (hi : i + 6 ≤ L) (hc : cs + 44 ≤ 601024) (hs : sl + 5596 ≤ 7293034) (tl : ∀ (S1 : Nat → Option ow_Sh) (I1 : ow_I) (V1 : Nat → Nat → Value) (z1 : Nat), lwI Z x m o (B + 4000) S1 I1 V1 → ow_W X (cs + 44) (sl + 5596) (S1, I1, V1, z1) 3148 (lwv b x m o i) []) : ow_W X cs sl (S, I, V, z) 1379 (lwv b x m o i) [] := by
  obtain ⟨E, G, GS, hL⟩ := id W
  have hX := hI.2.2.1.1.1
  refine or_aload_n (j := 1) E rfl dL_law_1379 ?_
  refine oy_V (st := []) [] (cA_houseCoins hI.1.1) E G lk_L_240 dL_law_1380 hI.1.1.1 rfl rfl rfl (by decide) (by decide) ⟨by omega, by omega⟩ (Nat.le_of_ble_eq_true rfl) oy_no (fun r h1 hk => ?_)
  obtain ⟨rfl, rfl⟩ := oy_eq hk
  refine or_aload_n (j := 2) E rfl dL_law_1383 ?_
  have hJ := hI.2.2.1
  have hq := q_houseCoins hJ
  refine or_cV0r (cM_houseCoins hI.1.2.1) E lk_L_243 dL_law_1384 hI.1.2.1.1 rfl rfl (by decide) (by decide) ⟨by omega, by omega⟩ (Nat.le_of_ble_eq_true rfl) ?_
  have hst := lw_step hI fA_r (RR_up hq.2 (show B ≤ B + 4000 by omega)) fM_houseCoins hI.2.2.2.1 rfl
  refine or_icmp_eq 3148 E dL_law_1387 rfl (fun _ => ?_) (fun hne => (hne (by rw [hq.1])).elim)
  exact or_wd (by omega) (by omega) (tl _ _ _ _ hst)
set_option maxRecDepth 100000 in
set_option maxHeartbeats 400000 in
theorem lc_24 {X : ow_X} {cs sl : Nat} {Z : Nat → Nat} {b L i x m o B z : Nat} {xs : Nat → Int32} {S : Nat → Option ow_Sh} {I : ow_I} {V : Nat → Nat → Value} (W : lwE X Z b L xs) (hI : lwI Z x m o B S I V) (hB : B + 4000 < 2 ^ 29) (hi : i + 6 ≤ L) (hc : cs + 44 ≤ 601024) (hs : sl + 5596 ≤ 7293034) (tl : ∀ (S1 : Nat → Option ow_Sh) (I1 : ow_I) (V1 : Nat → Nat → Value) (z1 : Nat), lwI Z x m o (B + 4000) S1 I1 V1 → ow_W X (cs + 44) (sl + 5596) (S1, I1, V1, z1) 3148 (lwv b x m o i) []) : ow_W X cs sl (S, I, V, z) 1392 (lwv b x m o i) [] := by
  obtain ⟨E, G, GS, hL⟩ := id W
  have hX := hI.2.2.1.1.1
  refine or_aload_n (j := 1) E rfl dL_law_1392 ?_
  refine oy_V (st := []) [] (cA_openBarrel hI.1.1) E G lk_L_244 dL_law_1393 hI.1.1.1 rfl rfl rfl (by decide) (by decide) ⟨by omega, by omega⟩ (Nat.le_of_ble_eq_true rfl) oy_no (fun r h1 hk => ?_)
  obtain ⟨rfl, rfl⟩ := oy_eq hk
  refine or_aload_n (j := 2) E rfl dL_law_1396 ?_
  have hJ := hI.2.2.1
  have hq := q_openBarrel hJ
  refine or_cV0r (cM_openBarrel hI.1.2.1) E lk_L_247 dL_law_1397 hI.1.2.1.1 rfl rfl (by decide) (by decide) ⟨by omega, by omega⟩ (Nat.le_of_ble_eq_true rfl) ?_
  have hst := lw_step hI fA_r (RR_up hq.2 (show B ≤ B + 4000 by omega)) fM_openBarrel hI.2.2.2.1 rfl
  refine or_icmp_eq 3148 E dL_law_1400 rfl (fun _ => ?_) (fun hne => (hne (by rw [hq.1])).elim)
  exact or_wd (by omega) (by omega) (tl _ _ _ _ hst)
set_option maxRecDepth 100000 in
set_option maxHeartbeats 400000 in
theorem lc_25 {X : ow_X} {cs sl : Nat} {Z : Nat → Nat} {b L i x m o B z : Nat} {xs : Nat → Int32} {S : Nat → Option ow_Sh} {I : ow_I} {V : Nat → Nat → Value} (W : lwE X Z b L xs) (hI : lwI Z x m o B S I V) (hB : B + 4000 < 2 ^ 29) (hi : i + 6 ≤ L) (hc : cs + 44 ≤ 601024) (hs : sl + 5596 ≤ 7293034) (tl : ∀ (S1 : Nat → Option ow_Sh) (I1 : ow_I) (V1 : Nat → Nat → Value) (z1 : Nat), lwI Z x m o (B + 4000) S1 I1 V1 → ow_W X (cs + 44) (sl + 5596) (S1, I1, V1, z1) 3148 (lwv b x m o i) []) : ow_W X cs sl (S, I, V, z) 1405 (lwv b x m o i) [] := by
  obtain ⟨E, G, GS, hL⟩ := id W
  have hX := hI.2.2.1.1.1
  refine or_aload_n (j := 1) E rfl dL_law_1405 ?_
  refine oy_V (st := []) [] (cA_bid hI.1.1) E G lk_L_248 dL_law_1406 hI.1.1.1 rfl rfl rfl (by decide) (by decide) ⟨by omega, by omega⟩ (Nat.le_of_ble_eq_true rfl) oy_no (fun r h1 hk => ?_)
  obtain ⟨rfl, rfl⟩ := oy_eq hk
  refine or_aload_n (j := 2) E rfl dL_law_1409 ?_
  have hJ := hI.2.2.1
  have hq := q_bid hJ
  refine or_cV0r (cM_bid hI.1.2.1) E lk_L_251 dL_law_1410 hI.1.2.1.1 rfl rfl (by decide) (by decide) ⟨by omega, by omega⟩ (Nat.le_of_ble_eq_true rfl) ?_
  have hst := lw_step hI fA_r (RR_up hq.2 (show B ≤ B + 4000 by omega)) fM_bid hI.2.2.2.1 rfl
  refine or_icmp_eq 3148 E dL_law_1413 rfl (fun _ => ?_) (fun hne => (hne (by rw [hq.1])).elim)
  exact or_wd (by omega) (by omega) (tl _ _ _ _ hst)
set_option maxRecDepth 100000 in
set_option maxHeartbeats 400000 in
theorem lc_26 {X : ow_X} {cs sl : Nat} {Z : Nat → Nat} {b L i x m o B z : Nat} {xs : Nat → Int32} {S : Nat → Option ow_Sh} {I : ow_I} {V : Nat → Nat → Value} (W : lwE X Z b L xs) (hI : lwI Z x m o B S I V) (hB : B + 4000 < 2 ^ 29) (hi : i + 6 ≤ L) (hc : cs + 44 ≤ 601024) (hs : sl + 5596 ≤ 7293034) (tl : ∀ (S1 : Nat → Option ow_Sh) (I1 : ow_I) (V1 : Nat → Nat → Value) (z1 : Nat), lwI Z x m o (B + 4000) S1 I1 V1 → ow_W X (cs + 44) (sl + 5596) (S1, I1, V1, z1) 3148 (lwv b x m o i) []) : ow_W X cs sl (S, I, V, z) 1418 (lwv b x m o i) [] := by
  obtain ⟨E, G, GS, hL⟩ := id W
  have hX := hI.2.2.1.1.1
  refine or_aload_n (j := 1) E rfl dL_law_1418 ?_
  refine oy_V (st := []) [] (cA_leader hI.1.1) E G lk_L_252 dL_law_1419 hI.1.1.1 rfl rfl rfl (by decide) (by decide) ⟨by omega, by omega⟩ (Nat.le_of_ble_eq_true rfl) oy_no (fun r h1 hk => ?_)
  obtain ⟨rfl, rfl⟩ := oy_eq hk
  refine or_aload_n (j := 2) E rfl dL_law_1422 ?_
  have hJ := hI.2.2.1
  have hq := q_leader hJ
  refine or_cV0r (cM_leader hI.1.2.1) E lk_L_255 dL_law_1423 hI.1.2.1.1 rfl rfl (by decide) (by decide) ⟨by omega, by omega⟩ (Nat.le_of_ble_eq_true rfl) ?_
  have hst := lw_step hI fA_r (RR_up hq.2 (show B ≤ B + 4000 by omega)) fM_leader hI.2.2.2.1 rfl
  refine or_icmp_eq 3148 E dL_law_1426 rfl (fun _ => ?_) (fun hne => (hne (by rw [hq.1])).elim)
  exact or_wd (by omega) (by omega) (tl _ _ _ _ hst)
set_option maxRecDepth 100000 in
set_option maxHeartbeats 400000 in
theorem lc_27 {X : ow_X} {cs sl : Nat} {Z : Nat → Nat} {b L i x m o B z : Nat} {xs : Nat → Int32} {S : Nat → Option ow_Sh} {I : ow_I} {V : Nat → Nat → Value} (W : lwE X Z b L xs) (hI : lwI Z x m o B S I V) (hB : B + 4000 < 2 ^ 29) (hi : i + 6 ≤ L) (hc : cs + 44 ≤ 601024) (hs : sl + 5596 ≤ 7293034) (tl : ∀ (S1 : Nat → Option ow_Sh) (I1 : ow_I) (V1 : Nat → Nat → Value) (z1 : Nat), lwI Z x m o (B + 4000) S1 I1 V1 → ow_W X (cs + 44) (sl + 5596) (S1, I1, V1, z1) 3148 (lwv b x m o i) []) : ow_W X cs sl (S, I, V, z) 1431 (lwv b x m o i) [] := by
  obtain ⟨E, G, GS, hL⟩ := id W
  have hX := hI.2.2.1.1.1
  refine or_aload_n (j := 1) E rfl dL_law_1431 ?_
  refine oy_V (st := []) [] (cA_nextBid hI.1.1 hX.1) E G lk_L_256 dL_law_1432 hI.1.1.1 rfl rfl rfl (by decide) (by decide) ⟨by omega, by omega⟩ (Nat.le_of_ble_eq_true rfl) oy_no (fun r h1 hk => ?_)
  obtain ⟨rfl, rfl⟩ := oy_eq hk
  refine or_aload_n (j := 2) E rfl dL_law_1435 ?_
  have hJ := hI.2.2.1
  have hq := q_nextBid hJ
  refine or_cV0r (cM_nextBid hI.1.2.1 hJ.2.1.2.1) E lk_L_259 dL_law_1436 hI.1.2.1.1 rfl rfl (by decide) (by decide) ⟨by omega, by omega⟩ (Nat.le_of_ble_eq_true rfl) ?_
  have hst := lw_step hI fA_r (RR_up hq.2 (show B ≤ B + 4000 by omega)) fM_nextBid hI.2.2.2.1 rfl
  refine or_icmp_eq 3148 E dL_law_1439 rfl (fun _ => ?_) (fun hne => (hne (by rw [hq.1])).elim)
  exact or_wd (by omega) (by omega) (tl _ _ _ _ hst)
set_option maxRecDepth 100000 in
set_option maxHeartbeats 400000 in
theorem lc_28 {X : ow_X} {cs sl : Nat} {Z : Nat → Nat} {b L i x m o B z : Nat} {xs : Nat → Int32} {S : Nat → Option ow_Sh} {I : ow_I} {V : Nat → Nat → Value} (W : lwE X Z b L xs) (hI : lwI Z x m o B S I V) (hB : B + 4000 < 2 ^ 29) (hi : i + 6 ≤ L) (hc : cs + 44 ≤ 601024) (hs : sl + 5596 ≤ 7293034) (tl : ∀ (S1 : Nat → Option ow_Sh) (I1 : ow_I) (V1 : Nat → Nat → Value) (z1 : Nat), lwI Z x m o (B + 4000) S1 I1 V1 → ow_W X (cs + 44) (sl + 5596) (S1, I1, V1, z1) 3148 (lwv b x m o i) []) : ow_W X cs sl (S, I, V, z) 1444 (lwv b x m o i) [] := by
  obtain ⟨E, G, GS, hL⟩ := id W
  have hX := hI.2.2.1.1.1
  refine or_aload_n (j := 1) E rfl dL_law_1444 ?_
  refine oy_V (st := []) [] (cA_quiet hI.1.1) E G lk_L_260 dL_law_1445 hI.1.1.1 rfl rfl rfl (by decide) (by decide) ⟨by omega, by omega⟩ (Nat.le_of_ble_eq_true rfl) oy_no (fun r h1 hk => ?_)
  obtain ⟨rfl, rfl⟩ := oy_eq hk
  refine or_aload_n (j := 2) E rfl dL_law_1448 ?_
  have hJ := hI.2.2.1
  have hq := q_quiet hJ
  refine or_cV0r (cM_quiet hI.1.2.1) E lk_L_263 dL_law_1449 hI.1.2.1.1 rfl rfl (by decide) (by decide) ⟨by omega, by omega⟩ (Nat.le_of_ble_eq_true rfl) ?_
  have hst := lw_step hI fA_r (RR_up hq.2 (show B ≤ B + 4000 by omega)) fM_quiet hI.2.2.2.1 rfl
  refine or_icmp_eq 3148 E dL_law_1452 rfl (fun _ => ?_) (fun hne => (hne (by rw [hq.1])).elim)
  exact or_wd (by omega) (by omega) (tl _ _ _ _ hst)
set_option maxRecDepth 100000 in
set_option maxHeartbeats 400000 in
theorem lc_29 {X : ow_X} {cs sl : Nat} {Z : Nat → Nat} {b L i x m o B z : Nat} {xs : Nat → Int32} {S : Nat → Option ow_Sh} {I : ow_I} {V : Nat → Nat → Value} (W : lwE X Z b L xs) (hI : lwI Z x m o B S I V) (hB : B + 4000 < 2 ^ 29) (hi : i + 6 ≤ L) (hc : cs + 44 ≤ 601024) (hs : sl + 5596 ≤ 7293034) (tl : ∀ (S1 : Nat → Option ow_Sh) (I1 : ow_I) (V1 : Nat → Nat → Value) (z1 : Nat), lwI Z x m o (B + 4000) S1 I1 V1 → ow_W X (cs + 44) (sl + 5596) (S1, I1, V1, z1) 3148 (lwv b x m o i) []) : ow_W X cs sl (S, I, V, z) 1457 (lwv b x m o i) [] := by
  obtain ⟨E, G, GS, hL⟩ := id W
  have hX := hI.2.2.1.1.1
  refine or_aload_n (j := 1) E rfl dL_law_1457 ?_
  refine oy_V (st := []) [] (cA_queueLength hI.1.1) E G lk_L_264 dL_law_1458 hI.1.1.1 rfl rfl rfl (by decide) (by decide) ⟨by omega, by omega⟩ (Nat.le_of_ble_eq_true rfl) oy_no (fun r h1 hk => ?_)
  obtain ⟨rfl, rfl⟩ := oy_eq hk
  refine or_aload_n (j := 2) E rfl dL_law_1461 ?_
  have hJ := hI.2.2.1
  have hq := q_queueLength hJ
  refine or_cV0r (cM_queueLength hI.1.2.1) E lk_L_267 dL_law_1462 hI.1.2.1.1 rfl rfl (by decide) (by decide) ⟨by omega, by omega⟩ (Nat.le_of_ble_eq_true rfl) ?_
  have hst := lw_step hI fA_r (RR_up hq.2 (show B ≤ B + 4000 by omega)) fM_queueLength hI.2.2.2.1 rfl
  refine or_icmp_eq 3148 E dL_law_1465 rfl (fun _ => ?_) (fun hne => (hne (by rw [hq.1])).elim)
  exact or_wd (by omega) (by omega) (tl _ _ _ _ hst)
set_option maxRecDepth 100000 in
set_option maxHeartbeats 400000 in
theorem lc_30 {X : ow_X} {cs sl : Nat} {Z : Nat → Nat} {b L i x m o B z : Nat} {xs : Nat → Int32} {S : Nat → Option ow_Sh} {I : ow_I} {V : Nat → Nat → Value} (W : lwE X Z b L xs) (hI : lwI Z x m o B S I V) (hB : B + 4000 < 2 ^ 29) (hi : i + 6 ≤ L) (hc : cs + 44 ≤ 601024) (hs : sl + 5596 ≤ 7293034) (tl : ∀ (S1 : Nat → Option ow_Sh) (I1 : ow_I) (V1 : Nat → Nat → Value) (z1 : Nat), lwI Z x m o (B + 4000) S1 I1 V1 → ow_W X (cs + 44) (sl + 5596) (S1, I1, V1, z1) 3148 (lwv b x m o i) []) : ow_W X cs sl (S, I, V, z) 1470 (lwv b x m o i) [] := by
  obtain ⟨E, G, GS, hL⟩ := id W
  have hX := hI.2.2.1.1.1
  refine or_aload_n (j := 1) E rfl dL_law_1470 ?_
  refine or_arg (j := 1) W rfl rfl dL_law_1471 dL_law_1472 dL_law_1474 dL_law_1475 dL_law_1476 (by omega) ?_
  refine oy_V (st := []) [.int (xs (i + 1))] (cA_queuedBarrel hI.1.1 hX) E G lk_L_268 dL_law_1477 hI.1.1.1 rfl rfl rfl (by decide) (by decide) ⟨by omega, by omega⟩ (Nat.le_of_ble_eq_true rfl) oy_no (fun r h1 hk => ?_)
  obtain ⟨rfl, rfl⟩ := oy_eq hk
  refine or_aload_n (j := 2) E rfl dL_law_1480 ?_
  refine or_arg (j := 1) W rfl rfl dL_law_1481 dL_law_1482 dL_law_1484 dL_law_1485 dL_law_1486 (by omega) ?_
  have hJ := hI.2.2.1
  have hq := q_queuedBarrel (p := (xs (i + 1))) hJ
  refine or_cV1r (cM_queuedBarrel hI.1.2.1 hJ.2.1.2.1) E lk_L_271 dL_law_1487 hI.1.2.1.1 rfl rfl (by decide) (by decide) ⟨by omega, by omega⟩ (Nat.le_of_ble_eq_true rfl) ?_
  have hst := lw_step hI fA_r (RR_up hq.2 (show B ≤ B + 4000 by omega)) (fM_queuedBarrel (a := (xs (i + 1)))) hI.2.2.2.1 rfl
  refine or_icmp_eq 3148 E dL_law_1490 rfl (fun _ => ?_) (fun hne => (hne (by rw [hq.1])).elim)
  exact or_wd (by omega) (by omega) (tl _ _ _ _ hst)
set_option maxRecDepth 100000 in
set_option maxHeartbeats 400000 in
theorem lc_31 {X : ow_X} {cs sl : Nat} {Z : Nat → Nat} {b L i x m o B z : Nat} {xs : Nat → Int32} {S : Nat → Option ow_Sh} {I : ow_I} {V : Nat → Nat → Value} (W : lwE X Z b L xs) (hI : lwI Z x m o B S I V) (hB : B + 4000 < 2 ^ 29) (hi : i + 6 ≤ L) (hc : cs + 44 ≤ 601024) (hs : sl + 5596 ≤ 7293034) (tl : ∀ (S1 : Nat → Option ow_Sh) (I1 : ow_I) (V1 : Nat → Nat → Value) (z1 : Nat), lwI Z x m o (B + 4000) S1 I1 V1 → ow_W X (cs + 44) (sl + 5596) (S1, I1, V1, z1) 3148 (lwv b x m o i) []) : ow_W X cs sl (S, I, V, z) 1495 (lwv b x m o i) [] := by
  obtain ⟨E, G, GS, hL⟩ := id W
  have hX := hI.2.2.1.1.1
  refine or_aload_n (j := 1) E rfl dL_law_1495 ?_
  refine oy_V (st := []) [] (cA_barrelCount hI.1.1) E G lk_L_272 dL_law_1496 hI.1.1.1 rfl rfl rfl (by decide) (by decide) ⟨by omega, by omega⟩ (Nat.le_of_ble_eq_true rfl) oy_no (fun r h1 hk => ?_)
  obtain ⟨rfl, rfl⟩ := oy_eq hk
  refine or_aload_n (j := 2) E rfl dL_law_1499 ?_
  have hJ := hI.2.2.1
  have hq := q_barrelCount hJ
  refine or_cV0r (cM_barrelCount hI.1.2.1) E lk_L_275 dL_law_1500 hI.1.2.1.1 rfl rfl (by decide) (by decide) ⟨by omega, by omega⟩ (Nat.le_of_ble_eq_true rfl) ?_
  have hst := lw_step hI fA_r (RR_up hq.2 (show B ≤ B + 4000 by omega)) fM_barrelCount hI.2.2.2.1 rfl
  refine or_icmp_eq 3148 E dL_law_1503 rfl (fun _ => ?_) (fun hne => (hne (by rw [hq.1])).elim)
  exact or_wd (by omega) (by omega) (tl _ _ _ _ hst)
set_option maxRecDepth 100000 in
set_option maxHeartbeats 400000 in
theorem lc_43 {X : ow_X} {cs sl : Nat} {Z : Nat → Nat} {b L i x m o B z : Nat} {xs : Nat → Int32} {S : Nat → Option ow_Sh} {I : ow_I} {V : Nat → Nat → Value} (W : lwE X Z b L xs) (hI : lwI Z x m o B S I V) (hB : B + 4000 < 2 ^ 29) (hi : i + 6 ≤ L) (hc : cs + 44 ≤ 601024) (hs : sl + 5596 ≤ 7293034) (tl : ∀ (S1 : Nat → Option ow_Sh) (I1 : ow_I) (V1 : Nat → Nat → Value) (z1 : Nat), lwI Z x m o (B + 4000) S1 I1 V1 → ow_W X (cs + 44) (sl + 5596) (S1, I1, V1, z1) 3148 (lwv b x m o i) []) : ow_W X cs sl (S, I, V, z) 2158 (lwv b x m o i) [] := by
  obtain ⟨E, G, GS, hL⟩ := id W
  have hX := hI.2.2.1.1.1
  refine or_aload_n (j := 1) E rfl dL_law_2158 ?_
  refine oy_V (st := []) [] (cA_buyerCount hI.1.1) E G lk_L_310 dL_law_2159 hI.1.1.1 rfl rfl rfl (by decide) (by decide) ⟨by omega, by omega⟩ (Nat.le_of_ble_eq_true rfl) oy_no (fun r h1 hk => ?_)
  obtain ⟨rfl, rfl⟩ := oy_eq hk
  refine or_aload_n (j := 2) E rfl dL_law_2162 ?_
  have hJ := hI.2.2.1
  have hq := q_buyerCount hJ
  refine or_cV0r (cM_buyerCount hI.1.2.1) E lk_L_313 dL_law_2163 hI.1.2.1.1 rfl rfl (by decide) (by decide) ⟨by omega, by omega⟩ (Nat.le_of_ble_eq_true rfl) ?_
  have hst := lw_step hI fA_r (RR_up hq.2 (show B ≤ B + 4000 by omega)) fM_buyerCount hI.2.2.2.1 rfl
  refine or_icmp_eq 3148 E dL_law_2166 rfl (fun _ => ?_) (fun hne => (hne (by rw [hq.1])).elim)
  exact or_wd (by omega) (by omega) (tl _ _ _ _ hst)
set_option maxRecDepth 100000 in
set_option maxHeartbeats 400000 in
theorem lc_52 {X : ow_X} {cs sl : Nat} {Z : Nat → Nat} {b L i x m o B z : Nat} {xs : Nat → Int32} {S : Nat → Option ow_Sh} {I : ow_I} {V : Nat → Nat → Value} (W : lwE X Z b L xs) (hI : lwI Z x m o B S I V) (hB : B + 4000 < 2 ^ 29) (hi : i + 6 ≤ L) (hc : cs + 44 ≤ 601024) (hs : sl + 5596 ≤ 7293034) (tl : ∀ (S1 : Nat → Option ow_Sh) (I1 : ow_I) (V1 : Nat → Nat → Value) (z1 : Nat), lwI Z x m o (B + 4000) S1 I1 V1 → ow_W X (cs + 44) (sl + 5596) (S1, I1, V1, z1) 3148 (lwv b x m o i) []) : ow_W X cs sl (S, I, V, z) 2652 (lwv b x m o i) [] := by
  obtain ⟨E, G, GS, hL⟩ := id W
  have hX := hI.2.2.1.1.1
  refine or_aload_n (j := 1) E rfl dL_law_2652 ?_
  refine oy_V (st := []) [] (cA_nextNodder hI.1.1 hX.1) E G lk_L_339 dL_law_2653 hI.1.1.1 rfl rfl rfl (by decide) (by decide) ⟨by omega, by omega⟩ (Nat.le_of_ble_eq_true rfl) oy_no (fun r h1 hk => ?_)
  obtain ⟨rfl, rfl⟩ := oy_eq hk
  refine or_aload_n (j := 2) E rfl dL_law_2656 ?_
  have hJ := hI.2.2.1
  have hq := q_nextNodder hJ
  refine or_cV0r (cM_nextNodder hI.1.2.1 hJ.2.1.2.1) E lk_L_342 dL_law_2657 hI.1.2.1.1 rfl rfl (by decide) (by decide) ⟨by omega, by omega⟩ (Nat.le_of_ble_eq_true rfl) ?_
  have hst := lw_step hI fA_r (RR_up hq.2 (show B ≤ B + 4000 by omega)) fM_nextNodder hI.2.2.2.1 rfl
  refine or_icmp_eq 3148 E dL_law_2660 rfl (fun _ => ?_) (fun hne => (hne (by rw [hq.1])).elim)
  exact or_wd (by omega) (by omega) (tl _ _ _ _ hst)
set_option maxRecDepth 100000 in
set_option maxHeartbeats 400000 in
theorem lc_58 {X : ow_X} {cs sl : Nat} {Z : Nat → Nat} {b L i x m o B z : Nat} {xs : Nat → Int32} {S : Nat → Option ow_Sh} {I : ow_I} {V : Nat → Nat → Value} (W : lwE X Z b L xs) (hI : lwI Z x m o B S I V) (hB : B + 4000 < 2 ^ 29) (hi : i + 6 ≤ L) (hc : cs + 44 ≤ 601024) (hs : sl + 5596 ≤ 7293034) (tl : ∀ (S1 : Nat → Option ow_Sh) (I1 : ow_I) (V1 : Nat → Nat → Value) (z1 : Nat), lwI Z x m o (B + 4000) S1 I1 V1 → ow_W X (cs + 44) (sl + 5596) (S1, I1, V1, z1) 3148 (lwv b x m o i) []) : ow_W X cs sl (S, I, V, z) 2957 (lwv b x m o i) [] := by
  obtain ⟨E, G, GS, hL⟩ := id W
  have hX := hI.2.2.1.1.1
  refine or_aload_n (j := 1) E rfl dL_law_2957 ?_
  refine oy_V (st := []) [] (cA_coinError hI.1.1 hX) E G lk_L_358 dL_law_2958 hI.1.1.1 rfl rfl rfl (by decide) (by decide) ⟨by omega, by omega⟩ (Nat.le_of_ble_eq_true rfl) oy_no (fun r h1 hk => ?_)
  obtain ⟨rfl, rfl⟩ := oy_eq hk
  refine or_aload_n (j := 2) E rfl dL_law_2961 ?_
  have hJ := hI.2.2.1
  have hq := q_coinError hJ
  refine or_cV0r (cM_coinError hI.1.2.1 hJ.2.1.2.1) E lk_L_361 dL_law_2962 hI.1.2.1.1 rfl rfl (by decide) (by decide) ⟨by omega, by omega⟩ (Nat.le_of_ble_eq_true rfl) ?_
  have hst := lw_step hI fA_r (RR_up hq.2 (show B ≤ B + 4000 by omega)) fM_coinError hI.2.2.2.1 rfl
  refine or_icmp_eq 3148 E dL_law_2965 rfl (fun _ => ?_) (fun hne => (hne (by rw [hq.1])).elim)
  exact or_wd (by omega) (by omega) (tl _ _ _ _ hst)
