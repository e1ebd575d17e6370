abbrev iA (S : Nat → Option ow_Sh) (z n : Nat) : Nat → Option ow_Sh := ow_nS S z (.inr (.int, n, ow_n))
theorem sum_ge {l : Nat → Int32} : ∀ n, n ≤ 9 → (∀ e, e < n → ∃ v : Nat, l e = nI v ∧ 10 ≤ v ∧ v ≤ 150) → ∃ s : Nat, sumL l n = nI s ∧ 10 * n ≤ s ∧ s ≤ 150 * n := by
  intro n
  induction n with
  | zero => intro _ _; exact ⟨0, rfl, Nat.le_refl _, Nat.le_refl _⟩
  | succ n ih =>
    intro h9 h
    obtain ⟨s, h1, h2, h3⟩ := ih (by omega) (fun e he => h e (by omega))
    obtain ⟨v, h4, h5, h6⟩ := h n (by omega)
    refine ⟨s + v, ?_, by omega, by omega⟩
    show sumL l n + l n = _
    rw [h1, h4, nI_add]
theorem sum_ne {l : Nat → Int32} {n : Nat} (h1 : 1 ≤ n) (h9 : n ≤ 9) (h : ∀ e, e < n → ∃ v : Nat, l e = nI v ∧ 10 ≤ v ∧ v ≤ 150) : ¬ sumL l n = 0 := by
  obtain ⟨s, e1, e2, e3⟩ := sum_ge n h9 h
  rw [e1]
  intro h0
  have := (nI_z (by omega)).mp h0
  omega
theorem lk_120_230 : ow_lv RX120 230 yX10_greatestLength cX10_greatestLength 2 (some .int) 1 := ⟨ow_T_in 1248 (by decide +kernel) (by decide +kernel), ow_T_in 1249 (by decide +kernel) (by decide +kernel), ow_T_in 1250 (by decide +kernel) (by decide +kernel), ow_T_in 1 (by decide +kernel) (by decide +kernel), ow_T_in 1251 (by decide +kernel) (by decide +kernel), ⟨by decide +kernel, by decide +kernel, by decide +kernel⟩⟩
theorem lk_120_233 : ow_lv RX120 233 yX10_worth cX10_worth 3 (some .double) 2 := ⟨ow_T_in 1252 (by decide +kernel) (by decide +kernel), ow_T_in 1253 (by decide +kernel) (by decide +kernel), ow_T_in 1254 (by decide +kernel) (by decide +kernel), ow_T_in 1 (by decide +kernel) (by decide +kernel), ow_T_in 1255 (by decide +kernel) (by decide +kernel), ⟨by decide +kernel, by decide +kernel, by decide +kernel⟩⟩
theorem lk_120_236 : ow_lv RX120 236 yX10_keenestBuyer cX10_keenestBuyer 2 (some .int) 1 := ⟨ow_T_in 1257 (by decide +kernel) (by decide +kernel), ow_T_in 1258 (by decide +kernel) (by decide +kernel), ow_T_in 1259 (by decide +kernel) (by decide +kernel), ow_T_in 1 (by decide +kernel) (by decide +kernel), ow_T_in 1260 (by decide +kernel) (by decide +kernel), ⟨by decide +kernel, by decide +kernel, by decide +kernel⟩⟩
theorem lk_120_239 : ow_lv RX120 239 yX10_pricePerLength cX10_pricePerLength 3 (some .float) 1 := ⟨ow_T_in 1265 (by decide +kernel) (by decide +kernel), ow_T_in 1266 (by decide +kernel) (by decide +kernel), ow_T_in 1267 (by decide +kernel) (by decide +kernel), ow_T_in 1 (by decide +kernel) (by decide +kernel), ow_T_in 1268 (by decide +kernel) (by decide +kernel), ⟨by decide +kernel, by decide +kernel, by decide +kernel⟩⟩
theorem lk_120_243 : ow_lv RX120 243 yX10_bought cX10_bought 2 (some .int) 1 := ⟨ow_T_in 1269 (by decide +kernel) (by decide +kernel), ow_T_in 1270 (by decide +kernel) (by decide +kernel), ow_T_in 1271 (by decide +kernel) (by decide +kernel), ow_T_in 1 (by decide +kernel) (by decide +kernel), ow_T_in 1272 (by decide +kernel) (by decide +kernel), ⟨by decide +kernel, by decide +kernel, by decide +kernel⟩⟩
theorem lk_120_246 : ow_lv RX120 246 yX10_meanLength cX10_meanLength 4 (some .double) 0 := ⟨ow_T_in 1273 (by decide +kernel) (by decide +kernel), ow_T_in 1274 (by decide +kernel) (by decide +kernel), ow_T_in 1275 (by decide +kernel) (by decide +kernel), ow_T_in 1 (by decide +kernel) (by decide +kernel), ow_T_in 1276 (by decide +kernel) (by decide +kernel), ⟨by decide +kernel, by decide +kernel, by decide +kernel⟩⟩
theorem lk_120_250 : ow_lv RX120 250 yX10_soldShare cX10_soldShare 3 (some .float) 0 := ⟨ow_T_in 1277 (by decide +kernel) (by decide +kernel), ow_T_in 1278 (by decide +kernel) (by decide +kernel), ow_T_in 1279 (by decide +kernel) (by decide +kernel), ow_T_in 1 (by decide +kernel) (by decide +kernel), ow_T_in 1280 (by decide +kernel) (by decide +kernel), ⟨by decide +kernel, by decide +kernel, by decide +kernel⟩⟩
set_option maxRecDepth 100000 in
set_option maxHeartbeats 4000000 in
theorem tL_seen {Z : Nat → Nat} {S : Nat → Option ow_Sh} {I : ow_I} {V : Nat → Nat → Value} {z x q B : Nat} (h_x : au_S S x) (hI : LI B x q I) : ow_Cx Z yL_seen cL_seen 12 (some .boolean) 5 21 186 [.ref x] (S, I, V, z) (ox_z S V z (some (.int (bi true))) I) := by
  refine ow_Cx.ofz rfl (Nat.le_of_ble_eq_true rfl) (fun X K E G F hk => ?_)
  have E : ow_E X RX120 cL_seen 12 (ow_rm 5 21 186) := E
  refine or_ltz (fun hlt => ?_)
  have h10 := li_n10 hI
  have h8 := (mk_nbuy hI.2.2.1).2
  have hlg := hI.2.2.2.1
  obtain ⟨n10, hn10⟩ : ∃ n, n = tn (I (x + 1) 10) := ⟨_, rfl⟩
  obtain ⟨n8, hn8⟩ : ∃ n, n = tn (I (x + 1) 8) := ⟨_, rfl⟩
  have e10 : I (x + 1) 10 = nI n10 := by rw [hn10]; exact (nI_tn (mk_nbar hI.2.2.1).1).symm
  have e8 : I (x + 1) 8 = nI n8 := by rw [hn8]; exact (nI_tn (mk_nbuy hI.2.2.1).1).symm
  rw [← hn10] at h10
  rw [← hn8] at h8
  have vb : ∀ b, b < n10 → 0 ≤ nI b ∧ tn (nI b) < tn (I (x + 1) 10) := fun b hb => li_vb hI (by omega)
  have vy : ∀ y, y < n8 → 0 ≤ nI y ∧ tn (nI y) < tn (I (x + 1) 8) := fun y hy => li_vy hI (by omega)
  have f5 : ∀ J : ow_I, (∀ a, a < z → J a = I a) → frm S I V (iA S z n8) J V := fun J hJ a sh hs => by
    have ha := hlt a sh hs
    exact ⟨(ow_nS_o S _ (by omega)).trans hs, fun k => by rw [hJ a ha], fun _ => rfl⟩
  have S5z : (iA S z n8) z = some (.inr (.int, n8, ow_n)) := ow_nS_s _ _ _
  have fin : ∀ (J : ow_I) (zz : Nat) (l1 l2 l4 : Int32), z < zz → (∀ a, a < z → J a = I a) → (∀ j, j < n8 → J z j = nI (cB (x + 1) I j n10)) → l1 = sE I x n10 → l2 = sT I x n10 → l4 = cP (x + 1) I n10 → ow_W X 21 186 (iA S z n8, J, V, zz) 365 [(0, .ref x), (1, .int l1), (2, .int l2), (3, .int (nI (cSd I x n10))), (4, .int l4), (5, .ref z)] [] := by
    intro J zz l1 l2 l4 hz hJ hc e1 e2 e4
    have f5J := f5 J hJ
    refine or_iconst (v := nI 0) E rfl dL_seen_365 ?_
    refine or_istore E dL_seen_366 (by decide) ?_
    have L368 : ∀ (n y : Nat), y ≤ n8 → n8 - y < n → ow_W X 21 186 (iA S z n8, J, V, zz) 368 [(0, .ref x), (1, .int l1), (2, .int l2), (3, .int (nI (cSd I x n10))), (4, .int l4), (5, .ref z), (6, .int (nI y))] [] := by
      intro n
      induction n with
      | zero => intro y h1 h2; omega
      | succ n ih =>
        intro y h1 h2
        refine or_iload E rfl dL_seen_368 ?_
        refine or_aload E rfl dL_seen_370 ?_
        refine or_alen E dL_seen_372 S5z ?_
        refine or_icmp_geN 398 E dL_seen_373 rfl (by omega) (by omega) (fun q373 => ?_) (fun q373 => ?_)
        · skip
          refine or_aload_n E rfl dL_seen_398 ?_
          refine or_qV0 f5J (cA_barrelCount (Z := Z) h_x) E G lk_120_177 dL_seen_399 h_x.1 rfl rfl (by decide) (by decide) ⟨(Nat.le_of_ble_eq_true rfl), (Nat.le_of_ble_eq_true rfl)⟩ (Nat.le_of_ble_eq_true rfl) ?_
          refine or_istore E dL_seen_402 (by decide) ?_
          refine or_aload_n E rfl dL_seen_404 ?_
          refine or_qV0 f5J (cA_sellerCoins (Z := Z) h_x) E G lk_120_142 dL_seen_405 h_x.1 rfl rfl (by decide) (by decide) ⟨(Nat.le_of_ble_eq_true rfl), (Nat.le_of_ble_eq_true rfl)⟩ (Nat.le_of_ble_eq_true rfl) ?_
          refine or_iload E rfl dL_seen_408 ?_
          refine or_icmp_ne 461 E dL_seen_410 rfl (fun q => absurd (hlg.2.2.2.1.trans (by rw [e4, hn10])) q) (fun _ => ?_)
          refine or_aload_n E rfl dL_seen_413 ?_
          refine or_qV0 f5J (cA_meanLength (Z := Z) h_x hI.1) E G lk_120_246 dL_seen_414 h_x.1 rfl rfl (by decide) (by decide) ⟨(Nat.le_of_ble_eq_true rfl), (Nat.le_of_ble_eq_true rfl)⟩ (Nat.le_of_ble_eq_true rfl) ?_
          refine or_iload_n E rfl dL_seen_417 ?_
          have mE := mean_e hI
          rw [← hn10, ← e1, ← e2] at mE
          have A430 : ow_W X 21 186 (iA S z n8, J, V, zz) 430 [(0, .ref x), (1, .int l1), (2, .int l2), (3, .int (nI (cSd I x n10))), (4, .int l4), (5, .ref z), (6, .int (A_barrelCount x I))] [.double (A_meanLength x I), .double (A_meanLength x I)] := by
            refine or_dcmp E dL_seen_430 ?_
            have nn : Op.cmpValue (FP.dcmp (A_meanLength x I) (A_meanLength x I)) .l = 0 := by
              rw [mE]
              split
              · exact nn_d0
              · exact nn_dd (by assumption)
            refine or_if_ne 461 E dL_seen_431 rfl (fun q => absurd nn q) (fun _ => ?_)
            refine or_aload_n E rfl dL_seen_434 ?_
            refine or_qV0 f5J (cA_soldShare (Z := Z) h_x hI.1) E G lk_120_250 dL_seen_435 h_x.1 rfl rfl (by decide) (by decide) ⟨(Nat.le_of_ble_eq_true rfl), (Nat.le_of_ble_eq_true rfl)⟩ (Nat.le_of_ble_eq_true rfl) ?_
            refine or_iload E rfl dL_seen_438 ?_
            have sH := share_e hI
            rw [← hn10] at sH
            have A453 : ow_W X 21 186 (iA S z n8, J, V, zz) 453 [(0, .ref x)] [.float (A_soldShare x I), .float (A_soldShare x I)] := by
              refine or_fcmp E dL_seen_453 ?_
              have nn : Op.cmpValue (FP.fcmp (A_soldShare x I) (A_soldShare x I)) .l = 0 := by
                rw [sH]
                split
                · exact nn_f0
                · exact nn_ff (by assumption)
              refine or_if_ne 461 E dL_seen_454 rfl (fun q => absurd nn q) (fun _ => ?_)
              refine or_iconst (v := nI 1) E rfl dL_seen_457 ?_
              refine or_goto 462 E dL_seen_458 rfl ?_
              refine or_fg f5J ?_
              exact or_xr E F (fun X' E' F' => or_zret E' F' dL_seen_462 (Nat.le_of_ble_eq_true rfl) (Nat.le_of_ble_eq_true rfl) (bi_nar true) (hk zz (Nat.le_of_lt hz)))
            refine or_if_ne 447 E dL_seen_440 rfl (fun q440 => ?_) (fun q440 => ?_)
            · rw [if_neg (show ¬ I (x + 1) 10 = 0 from q440)] at sH
              refine or_iload_n E rfl dL_seen_447 ?_
              refine or_i2f E dL_seen_448 ?_
              refine or_iload E rfl dL_seen_449 ?_
              refine or_i2f E dL_seen_451 ?_
              refine or_fdiv E (fp_ff q440) dL_seen_452 ?_
              rw [show FP.fdiv (FP.i2f (nI (cSd I x n10))) (FP.i2f (A_barrelCount x I)) = A_soldShare x I from sH.symm]
              exact or_lv _ rfl A453
            · rw [if_pos (show I (x + 1) 10 = 0 from q440)] at sH
              refine or_fconst0 E dL_seen_443 ?_
              refine or_goto 453 E dL_seen_444 rfl ?_
              rw [← sH]
              exact or_lv _ rfl A453
          refine or_if_ne 425 E dL_seen_418 rfl (fun q418 => ?_) (fun q418 => ?_)
          · rw [if_neg q418] at mE
            refine or_iload_n E rfl dL_seen_425 ?_
            refine or_i2d E dL_seen_426 ?_
            refine or_iload_n E rfl dL_seen_427 ?_
            refine or_i2d E dL_seen_428 ?_
            refine or_ddiv E (fp_dd q418) dL_seen_429 ?_
            rw [← mE]
            exact or_lv _ rfl A430
          · rw [if_pos q418] at mE
            refine or_dconst0 E dL_seen_421 ?_
            refine or_goto 430 E dL_seen_422 rfl ?_
            rw [← mE]
            exact or_lv _ rfl A430
        · skip
          refine or_aload_n E rfl dL_seen_376 ?_
          refine or_iload E rfl dL_seen_377 ?_
          refine or_qV1 f5J (cA_bought (Z := Z) h_x hI.1.1 (vy y (by omega))) E G lk_120_243 dL_seen_379 h_x.1 rfl rfl (by decide) (by decide) ⟨(Nat.le_of_ble_eq_true rfl), (Nat.le_of_ble_eq_true rfl)⟩ (Nat.le_of_ble_eq_true rfl) ?_
          refine or_aload E rfl dL_seen_382 ?_
          refine or_iload E rfl dL_seen_384 ?_
          refine ot_iald (j := y) E dL_seen_386 S5z rfl rfl (by omega) (by omega) ?_
          have eb : A_bought x (nI y) I = J z y := by
            rw [hc y (by omega)]
            unfold A_bought
            rw [tn_nI (by omega), hlg.2.2.1 y (by omega), hn10]
          refine or_icmp_eq 392 E dL_seen_387 rfl (fun _ => ?_) (fun q => absurd eb q)
          refine or_iincN (c := 1) E dL_seen_392 rfl rfl (by decide) ?_
          refine or_goto 368 E dL_seen_395 rfl ?_
          exact or_lv _ rfl (ih (y + 1) (by omega) (by omega))
    exact or_lv _ rfl (L368 (n8 + 1) 0 (Nat.zero_le _) (by omega))
  have L20 : ∀ (n : Nat) (J : ow_I) (zz b : Nat) (l1 l2 l4 : Int32), b ≤ n10 → z < zz → (∀ a, a < z → J a = I a) → (∀ j, j < n8 → J z j = nI (cB (x + 1) I j b)) → l1 = sE I x b → l2 = sT I x b → l4 = cP (x + 1) I b → n10 - b < n → ow_W X (1 + b) (6 + 9 * b) (iA S z n8, J, V, zz) 20 [(0, .ref x), (1, .int l1), (2, .int l2), (3, .int (nI (cSd I x b))), (4, .int l4), (5, .ref z), (6, .int (nI b))] [] := by
    intro n
    induction n with
    | zero => intro J zz b l1 l2 l4 h1 h2 h3 h4 h5 h6 h7 h8; omega
    | succ n ih20 =>
      intro J zz b l1 l2 l4 hb hz hJ hc e1 e2 e4 hm
      have f5J := f5 J hJ
      refine or_iload E rfl dL_seen_20 ?_
      refine or_aload_n E rfl dL_seen_22 ?_
      refine or_qV0 f5J (cA_barrelCount (Z := Z) h_x) E G lk_120_177 dL_seen_23 h_x.1 rfl rfl (by decide) (by decide) ⟨by omega, by omega⟩ (Nat.le_of_ble_eq_true rfl) ?_
      refine or_top (show A_barrelCount x I = nI n10 from e10) ?_
      refine or_icmp_geN 365 E dL_seen_26 rfl (by omega) (by omega) (fun q26 => ?_) (fun q26 => ?_)
      · obtain rfl : b = n10 := by omega
        exact or_wd (by omega) (by omega) (or_lv _ rfl (fin J zz l1 l2 l4 hz hJ hc e1 e2 e4))
      have hbn : b < n10 := by omega
      have htb : tn (nI b) = b := tn_nI (by omega)
      obtain ⟨C, hC⟩ : ∃ C, C = x + 1 + 11 + 2 * b := ⟨_, rfl⟩
      obtain ⟨c0, c1, c2, c3, c4, c5, c6⟩ := li_b hI (b := b) (by omega)
      rw [← hC] at c0 c1 c2 c3 c4 c5 c6
      obtain ⟨e, he⟩ : ∃ e, e = tn (I C 1) := ⟨_, rfl⟩
      rw [← he] at c1 c2 c3 c4 c5 c6
      have eC1 : I C 1 = nI e := by rw [he]; exact (nI_tn c0).symm
      have ee : A_eels x (nI b) I = nI e := by unfold A_eels; rw [htb, ← hC]; exact eC1
      have eS : A_stateOf x (nI b) I = I C 7 := by unfold A_stateOf; rw [htb, ← hC]
      have eB : A_buyerOf x (nI b) I = I C 8 := by unfold A_buyerOf; rw [htb, ← hC]
      have eP : A_priceOf x (nI b) I = I C 9 := by unfold A_priceOf; rw [htb, ← hC]
      have eT : A_totalLength x (nI b) I = I C 2 := by unfold A_totalLength; rw [htb, ← hC]
      have eL : ∀ j, j < 100 → A_length x (nI b) (nI j) I = I (C + 1) j := fun j hj => by unfold A_length; rw [htb, tn_nI (by omega), ← hC]
      have hLn : ∀ j, j < e → nI j < I (x + 1 + 11 + 2 * tn (nI b)) 1 := fun j hj => by rw [htb, ← hC, eC1]; exact nI_lt hj (by omega)
      have f9 : ∀ J2 : ow_I, (∀ a, a < z → J2 a = I a) → frm S I V (iA (iA S z n8) zz e) J2 V := fun J2 hJ2 a sh hs => by
        have ha := hlt a sh hs
        exact ⟨(ow_nS_o _ _ (by omega)).trans ((ow_nS_o S _ (by omega)).trans hs), fun k => by rw [hJ2 a ha], fun _ => rfl⟩
      have f95 : ∀ J2 : ow_I, frm (iA S z n8) J2 V (iA (iA S z n8) zz e) J2 V := fun J2 a sh hs => by
        refine ⟨(ow_nS_o _ _ (fun h => ?_)).trans hs, fun k => rfl, fun _ => rfl⟩
        subst h
        rw [show (iA S z n8) a = S a from ow_nS_o _ _ (by omega)] at hs
        exact absurd (hlt a sh hs) (by omega)
      have S9z : (iA (iA S z n8) zz e) z = some (.inr (.int, n8, ow_n)) := (ow_nS_o _ _ (by omega)).trans S5z
      have S9zz : (iA (iA S z n8) zz e) zz = some (.inr (.int, e, ow_n)) := ow_nS_s _ _ _
      have A359 : ∀ (J2 : ow_I) (v l1 l2 l3 l4 : Int32), l3 = nI (cSd I x (b + 1)) → (∀ a, a < z → J2 a = I a) → (∀ j, j < n8 → J2 z j = nI (cB (x + 1) I j (b + 1))) → l1 = sE I x (b + 1) → l2 = sT I x (b + 1) → l4 = cP (x + 1) I (b + 1) → ow_W X (1 + b + 1) (6 + 9 * b + e) (iA S z n8, J2, V, zz + 1) 359 [(0, .ref x), (1, .int l1), (2, .int l2), (3, .int l3), (4, .int l4), (5, .ref z), (6, .int (nI b))] [] := by
        intro J2 v l1 l2 l3 l4 e3 hJ2 hc2 e1 e2 e4
        subst e3
        refine or_iincN (c := 1) E dL_seen_359 rfl rfl (by decide) ?_
        refine or_goto 20 E dL_seen_362 rfl ?_
        exact or_wd (by omega) (by omega) (or_lv _ rfl (ih20 J2 (zz + 1) (b + 1) l1 l2 l4 (by omega) (by omega) hJ2 hc2 e1 e2 e4 (by omega)))
      have sE1 : sE I x (b + 1) = sE I x b + nI e := by show _ + I (x + 1 + 11 + 2 * b) 1 = _; rw [← hC, eC1]
      have sT1 : sT I x (b + 1) = sT I x b + I C 2 := by show _ + I (x + 1 + 11 + 2 * b) 2 = _; rw [← hC]
      have hpp : A_pricePerLength x (nI b) I = if I C 7 = nI 2 then if I C 2 = 0 then FP.fconst0 else FP.fdiv (FP.i2f (I C 9)) (FP.i2f (I C 2)) else FP.fconst0 := by unfold A_pricePerLength; rw [htb, ← hC]
      have hT0 : ¬ I C 2 = 0 := by
        rw [c3]
        exact sum_ne c1 c2 c6
      have A249 : ∀ (J2 : ow_I) (l1 l2 : Int32), (∀ a, a < z → J2 a = I a) → (∀ j, j < n8 → J2 z j = nI (cB (x + 1) I j b)) → l1 = sE I x (b + 1) → l2 = sT I x (b + 1) → ow_W X (1 + b + 1) (6 + 9 * b + e) (iA S z n8, J2, V, zz + 1) 249 [(0, .ref x), (1, .int l1), (2, .int l2), (3, .int (nI (cSd I x b))), (4, .int l4), (5, .ref z), (6, .int (nI b))] [] := by
        intro J2 l1 l2 hJ2 hc2 e1 e2
        have f5J := f5 J2 hJ2
        refine or_aload_n E rfl dL_seen_249 ?_
        refine or_iload E rfl dL_seen_250 ?_
        refine or_qV1 f5J (cA_stateOf (Z := Z) h_x hI.1.1 (vb b hbn)) E G lk_120_157 dL_seen_252 h_x.1 rfl rfl (by decide) (by decide) ⟨by omega, by omega⟩ (Nat.le_of_ble_eq_true rfl) ?_
        refine or_top eS ?_
        refine or_iconst (v := nI 2) E rfl dL_seen_255 ?_
        refine or_icmp_ne 263 E dL_seen_256 rfl (fun q256 => ?_) (fun q256 => ?_)
        · skip
          obtain ⟨u1, u2⟩ := hlg.2.1 b (by omega) (by rw [← hC]; exact q256)
          rw [← hC] at u1 u2
          refine or_iconst (v := nI 0) E rfl dL_seen_263 ?_
          refine or_istore E dL_seen_264 (by decide) ?_
          refine or_iload E rfl dL_seen_266 ?_
          refine or_if_eq 301 E dL_seen_268 rfl (fun _ => ?_) (fun q => absurd rfl q)
          refine or_aload_n E rfl dL_seen_301 ?_
          refine or_iload E rfl dL_seen_302 ?_
          refine or_qV1 f5J (cA_buyerOf (Z := Z) h_x hI.1.1 (vb b hbn)) E G lk_120_160 dL_seen_304 h_x.1 rfl rfl (by decide) (by decide) ⟨by omega, by omega⟩ (Nat.le_of_ble_eq_true rfl) ?_
          refine or_iconst (v := -1) E rfl dL_seen_307 ?_
          refine or_icmp_ne 321 E dL_seen_308 rfl (fun q => absurd (eB.trans u1) q) (fun _ => ?_)
          refine or_aload_n E rfl dL_seen_311 ?_
          refine or_iload E rfl dL_seen_312 ?_
          refine or_qV1 f5J (cA_priceOf (Z := Z) h_x hI.1.1 (vb b hbn)) E G lk_120_163 dL_seen_314 h_x.1 rfl rfl (by decide) (by decide) ⟨by omega, by omega⟩ (Nat.le_of_ble_eq_true rfl) ?_
          refine or_iconst (v := -1) E rfl dL_seen_317 ?_
          refine or_icmp_eq 323 E dL_seen_318 rfl (fun _ => ?_) (fun q => absurd (eP.trans u2) q)
          refine or_aload_n E rfl dL_seen_323 ?_
          refine or_iload E rfl dL_seen_324 ?_
          refine or_qV1 f5J (cA_pricePerLength (Z := Z) h_x hI.1 (vb b hbn)) E G lk_120_239 dL_seen_326 h_x.1 rfl rfl (by decide) (by decide) ⟨by omega, by omega⟩ (Nat.le_of_ble_eq_true rfl) ?_
          refine or_iload E rfl dL_seen_329 ?_
          refine or_if_eq 352 E dL_seen_331 rfl (fun _ => ?_) (fun q => absurd rfl q)
          refine or_fconst0 E dL_seen_352 ?_
          refine or_fcmp E dL_seen_353 ?_
          rw [hpp, if_neg q256]
          refine or_if_eq 359 E dL_seen_354 rfl (fun _ => ?_) (fun q => absurd nn_f0 q)
          refine or_lv _ ?_ (A359 J2 0 l1 l2 (nI (cSd I x b)) l4 ?_ hJ2 (fun j hj => ?_) e1 e2 ?_)
          · rfl
          · show nI (cSd I x b) = nI (if I (x + 1 + 11 + 2 * b) 7 = nI 2 then _ else _)
            rw [← hC, if_neg q256]
          · rw [hc2 j hj]
            show nI (cB (x + 1) I j b) = nI (if I (x + 1 + 11 + 2 * b) 7 = nI 2 ∧ I (x + 1 + 11 + 2 * b) 8 = nI j then _ else _)
            rw [← hC, if_neg (fun h => q256 h.1)]
          · rw [e4]
            show cP (x + 1) I b = if I (x + 1 + 11 + 2 * b) 7 = nI 2 then _ else _
            rw [← hC, if_neg q256]
        · skip
          obtain ⟨u1, u2⟩ := hlg.1 b (by omega) (by rw [← hC]; exact q256)
          rw [← hC] at u1 u2
          obtain ⟨u, hu⟩ : ∃ u, u = tn (I C 8) := ⟨_, rfl⟩
          have eu : I C 8 = nI u := by rw [hu]; exact (nI_tn u1).symm
          rw [← hu] at u2
          refine or_iconst (v := nI 1) E rfl dL_seen_259 ?_
          refine or_goto 264 E dL_seen_260 rfl ?_
          refine or_istore E dL_seen_264 (by decide) ?_
          refine or_iload E rfl dL_seen_266 ?_
          refine or_if_eq 301 E dL_seen_268 rfl (fun q => absurd q (by decide)) (fun _ => ?_)
          refine or_iincN (c := 1) E dL_seen_271 rfl rfl (by decide) ?_
          refine or_iload E rfl dL_seen_274 ?_
          refine or_aload_n E rfl dL_seen_276 ?_
          refine or_iload E rfl dL_seen_277 ?_
          refine or_qV1 f5J (cA_priceOf (Z := Z) h_x hI.1.1 (vb b hbn)) E G lk_120_163 dL_seen_279 h_x.1 rfl rfl (by decide) (by decide) ⟨by omega, by omega⟩ (Nat.le_of_ble_eq_true rfl) ?_
          refine or_iadd E dL_seen_282 ?_
          refine or_istore E dL_seen_283 (by decide) ?_
          refine or_aload E rfl dL_seen_285 ?_
          refine or_aload_n E rfl dL_seen_287 ?_
          refine or_iload E rfl dL_seen_288 ?_
          refine or_qV1 f5J (cA_buyerOf (Z := Z) h_x hI.1.1 (vb b hbn)) E G lk_120_160 dL_seen_290 h_x.1 rfl rfl (by decide) (by decide) ⟨by omega, by omega⟩ (Nat.le_of_ble_eq_true rfl) ?_
          refine or_top (eB.trans eu) ?_
          refine or_dup2 E rfl rfl dL_seen_293 ?_
          refine ot_iald (j := u) E dL_seen_294 S5z rfl rfl (by omega) (by omega) ?_
          refine or_top (hc2 u (by omega)) ?_
          refine or_iconst (v := nI 1) E rfl dL_seen_295 ?_
          refine or_iaddN E dL_seen_296 ?_
          refine ot_iast (j := u) E dL_seen_297 S5z rfl rfl (by omega) (by omega) ?_
          refine or_goto 323 E dL_seen_298 rfl ?_
          have hJ3 : ∀ a, a < z → ow_u J2 z u (nI (cB (x + 1) I u b + 1)) a = I a := fun a ha => by
            funext k
            rw [ow_u_a _ _ _ _ (by omega)]
            exact congrFun (hJ2 a ha) k
          have f6 := f5 _ hJ3
          refine or_aload_n E rfl dL_seen_323 ?_
          refine or_iload E rfl dL_seen_324 ?_
          refine or_qV1 f6 (cA_pricePerLength (Z := Z) h_x hI.1 (vb b hbn)) E G lk_120_239 dL_seen_326 h_x.1 rfl rfl (by decide) (by decide) ⟨by omega, by omega⟩ (Nat.le_of_ble_eq_true rfl) ?_
          refine or_iload E rfl dL_seen_329 ?_
          refine or_if_eq 352 E dL_seen_331 rfl (fun q => absurd q (by decide)) (fun _ => ?_)
          refine or_aload_n E rfl dL_seen_334 ?_
          refine or_iload E rfl dL_seen_335 ?_
          refine or_qV1 f6 (cA_priceOf (Z := Z) h_x hI.1.1 (vb b hbn)) E G lk_120_163 dL_seen_337 h_x.1 rfl rfl (by decide) (by decide) ⟨by omega, by omega⟩ (Nat.le_of_ble_eq_true rfl) ?_
          refine or_top eP ?_
          refine or_i2f E dL_seen_340 ?_
          refine or_aload_n E rfl dL_seen_341 ?_
          refine or_iload E rfl dL_seen_342 ?_
          refine or_qV1 f6 (cA_totalLength (Z := Z) h_x hI.1.1 (vb b hbn)) E G lk_120_180 dL_seen_344 h_x.1 rfl rfl (by decide) (by decide) ⟨by omega, by omega⟩ (Nat.le_of_ble_eq_true rfl) ?_
          refine or_top eT ?_
          refine or_i2f E dL_seen_347 ?_
          refine or_fdiv E (fp_ff hT0) dL_seen_348 ?_
          refine or_goto 353 E dL_seen_349 rfl ?_
          refine or_fcmp E dL_seen_353 ?_
          rw [hpp, if_pos q256, if_neg hT0]
          refine or_if_eq 359 E dL_seen_354 rfl (fun _ => ?_) (fun q => absurd (nn_ff hT0) q)
          refine or_lv _ ?_ (A359 _ 0 l1 l2 (nI (cSd I x b + 1)) (l4 + A_priceOf x (nI b) I) ?_ hJ3 (fun j hj => ?_) e1 e2 ?_)
          · rfl
          · show nI (cSd I x b + 1) = nI (if I (x + 1 + 11 + 2 * b) 7 = nI 2 then _ else _)
            rw [← hC, if_pos q256]
          · show ow_u J2 z u (nI (cB (x + 1) I u b + 1)) z j = nI (if I (x + 1 + 11 + 2 * b) 7 = nI 2 ∧ I (x + 1 + 11 + 2 * b) 8 = nI j then _ else _)
            rw [← hC, eu]
            by_cases hju : j = u
            · subst hju
              rw [ow_u_s, if_pos ⟨q256, rfl⟩]
            · rw [ow_u_k _ _ _ _ hju, hc2 j hj, if_neg (fun h => hju ((nI_eq (by omega) (by omega)).mp h.2).symm)]
          · rw [e4, eP]
            show _ = if I (x + 1 + 11 + 2 * b) 7 = nI 2 then _ else _
            rw [← hC, if_pos q256]
      have A175 : ∀ (J2 : ow_I) (l1 l2 : Int32), (∀ a, a < z → J2 a = I a) → (∀ j, j < n8 → J2 z j = nI (cB (x + 1) I j b)) → l1 = sE I x (b + 1) → l2 = sT I x (b + 1) → ∀ (n i j7 : Nat), i ≤ n8 → j7 < n8 → kst I x b i j7 → n8 - i < n → ow_W X (1 + b + 1) (6 + 9 * b + e) (iA S z n8, J2, V, zz + 1) 175 [(0, .ref x), (1, .int l1), (2, .int l2), (3, .int (nI (cSd I x b))), (4, .int l4), (5, .ref z), (6, .int (nI b)), (7, .int (nI j7)), (10, .int (nI i))] [] := by
        intro J2 l1 l2 hJ2 hc2 e1 e2 n
        have f5J := f5 J2 hJ2
        induction n with
        | zero => intro i j7 h1 h2 h3 h4; omega
        | succ n ih =>
          intro i j7 h1 h2 h3 h4
          refine or_iload E rfl dL_seen_175 ?_
          refine or_aload_n E rfl dL_seen_177 ?_
          refine or_qV0 f5J (cA_buyerCount (Z := Z) h_x) E G lk_120_63 dL_seen_178 h_x.1 rfl rfl (by decide) (by decide) ⟨by omega, by omega⟩ (Nat.le_of_ble_eq_true rfl) ?_
          refine or_top (show A_buyerCount x I = nI n8 from e8) ?_
          refine or_icmp_geN 236 E dL_seen_181 rfl (by omega) (by omega) (fun q181 => ?_) (fun q181 => ?_)
          · skip
            refine or_aload_n E rfl dL_seen_236 ?_
            refine or_iload E rfl dL_seen_237 ?_
            refine or_qV1 f5J (cA_keenestBuyer (Z := Z) h_x hI.1 (vb b hbn)) E G lk_120_236 dL_seen_239 h_x.1 rfl rfl (by decide) (by decide) ⟨by omega, by omega⟩ (Nat.le_of_ble_eq_true rfl) ?_
            refine or_iload E rfl dL_seen_242 ?_
            rw [kst_e hI (by omega) h3 (by omega)]
            refine or_icmp_eq 249 E dL_seen_244 rfl (fun _ => ?_) (fun q => absurd rfl q)
            exact or_lv _ rfl (A249 J2 l1 l2 hJ2 hc2 e1 e2)
          · skip
            refine or_aload_n E rfl dL_seen_184 ?_
            refine or_iload E rfl dL_seen_185 ?_
            refine or_iload E rfl dL_seen_187 ?_
            refine or_qV2 f5J (cA_worth (Z := Z) h_x hI.1 (vy i (by omega)) (vb b hbn)) E G lk_120_233 dL_seen_189 h_x.1 rfl rfl (by decide) (by decide) ⟨by omega, by omega⟩ (Nat.le_of_ble_eq_true rfl) ?_
            refine or_aload_n E rfl dL_seen_192 ?_
            refine or_iload E rfl dL_seen_193 ?_
            refine or_iload E rfl dL_seen_195 ?_
            refine or_qT3 f5J (tL_worth (Z := Z) h_x hI.1 (vy i (by omega)) (vb b hbn)) E G lk_120_129 dL_seen_197 (by decide) (by decide) ⟨by omega, by omega⟩ (Nat.le_of_ble_eq_true rfl) ?_
            refine or_dcmp E dL_seen_200 ?_
            rw [worth_eq hI (vb b hbn)]
            refine or_if_eq 206 E dL_seen_201 rfl (fun _ => ?_) (fun q => absurd (worth_nn hI (vb b hbn)) q)
            refine or_aload_n E rfl dL_seen_206 ?_
            refine or_iload E rfl dL_seen_207 ?_
            refine or_iload E rfl dL_seen_209 ?_
            refine or_qT3 f5J (tL_worth (Z := Z) h_x hI.1 (vy i (by omega)) (vb b hbn)) E G lk_120_129 dL_seen_211 (by decide) (by decide) ⟨by omega, by omega⟩ (Nat.le_of_ble_eq_true rfl) ?_
            refine or_aload_n E rfl dL_seen_214 ?_
            refine or_iload E rfl dL_seen_215 ?_
            refine or_iload E rfl dL_seen_217 ?_
            refine or_qT3 f5J (tL_worth (Z := Z) h_x hI.1 (vy j7 (by omega)) (vb b hbn)) E G lk_120_129 dL_seen_219 (by decide) (by decide) ⟨by omega, by omega⟩ (Nat.le_of_ble_eq_true rfl) ?_
            have ks := kst_s hI (by omega) h3 (show i < tn (I (x + 1) 8) by omega) (by omega)
            refine or_dcmp E dL_seen_222 ?_
            refine or_if_le 230 E dL_seen_223 rfl (fun q223 => ?_) (fun q223 => ?_)
            · refine or_iincN (c := 1) E dL_seen_230 rfl rfl (by decide) ?_
              refine or_goto 175 E dL_seen_233 rfl ?_
              exact or_lv _ rfl (ih (i + 1) j7 (by omega) h2 (ks.1 q223) (by omega))
            · refine or_iload E rfl dL_seen_226 ?_
              refine or_istore E dL_seen_228 (by decide) ?_
              refine or_iincN (c := 1) E dL_seen_230 rfl rfl (by decide) ?_
              refine or_goto 175 E dL_seen_233 rfl ?_
              exact or_lv _ rfl (ih (i + 1) i (by omega) (by omega) (ks.2 q223) (by omega))
      have A131 : ∀ (J2 : ow_I) (l2' : Int32), (∀ a, a < z → J2 a = I a) → (∀ k, k < n8 → J2 z k = J z k) → srt (J2 zz) e → prm (J2 zz) (I (C + 1)) e → l2' = l2 + sumL (I (C + 1)) e → ow_W X (1 + b + 1) (6 + 9 * b + e) (iA (iA S z n8) zz e, J2, V, zz + 1) 131 [(0, .ref x), (1, .int l1), (2, .int l2'), (3, .int (nI (cSd I x b))), (4, .int l4), (5, .ref z), (6, .int (nI b)), (7, .int (nI 0)), (8, .int (nI e)), (9, .ref zz)] [] := by
        intro J2 l2' hJ2 hz2 hs hp e2'
        have f9J := f9 J2 hJ2
        refine or_iload_n E rfl dL_seen_131 ?_
        refine or_iload E rfl dL_seen_132 ?_
        refine or_iadd E dL_seen_134 ?_
        refine or_istore_n E dL_seen_135 (by decide) ?_
        refine or_aload_n E rfl dL_seen_136 ?_
        refine or_iload E rfl dL_seen_137 ?_
        refine or_qV1 f9J (cA_middleLength (Z := Z) h_x hI.1 (vb b hbn)) E G lk_120_190 dL_seen_139 h_x.1 rfl rfl (by decide) (by decide) ⟨by omega, by omega⟩ (Nat.le_of_ble_eq_true rfl) ?_
        refine or_aload E rfl dL_seen_142 ?_
        refine or_iload E rfl dL_seen_144 ?_
        refine or_iconst (v := nI 1) E rfl dL_seen_146 ?_
        refine or_isubN E dL_seen_147 (by omega) ?_
        refine or_iconst (v := nI 2) E rfl dL_seen_148 ?_
        refine or_idivN E dL_seen_149 (by omega) (by omega) (by omega) ?_
        refine ot_iald (j := (e - 1) / 2) E dL_seen_150 S9zz rfl rfl (by omega) (by omega) ?_
        have mid : A_middleLength x (nI b) I = J2 zz ((e - 1) / 2) := by
          unfold A_middleLength
          rw [htb, ← hC, eC1, pk_sub (by omega), pk_div (by omega) (by omega) (by omega)]
          exact lar he.symm (by omega) (by omega) hs hp
        have gre : A_greatestLength x (nI b) I = J2 zz (e - 1) := by
          unfold A_greatestLength
          rw [htb, ← hC, c4]
          exact gre_s (by omega) hs hp (fun i hi => by obtain ⟨v, h1, h2, h3⟩ := c6 i hi; rw [h1]; exact nI_ge0 (by omega))
        refine or_icmp_ne 170 E dL_seen_151 rfl (fun q => absurd mid q) (fun _ => ?_)
        refine or_aload_n E rfl dL_seen_154 ?_
        refine or_iload E rfl dL_seen_155 ?_
        refine or_qV1 f9J (cA_greatestLength (Z := Z) h_x hI.1.1 (vb b hbn)) E G lk_120_230 dL_seen_157 h_x.1 rfl rfl (by decide) (by decide) ⟨by omega, by omega⟩ (Nat.le_of_ble_eq_true rfl) ?_
        refine or_aload E rfl dL_seen_160 ?_
        refine or_iload E rfl dL_seen_162 ?_
        refine or_iconst (v := nI 1) E rfl dL_seen_164 ?_
        refine or_isubN E dL_seen_165 (by omega) ?_
        refine ot_iald (j := e - 1) E dL_seen_166 S9zz rfl rfl (by omega) (by omega) ?_
        refine or_icmp_eq 172 E dL_seen_167 rfl (fun _ => ?_) (fun q => absurd gre q)
        refine or_iconst (v := nI 0) E rfl dL_seen_172 ?_
        refine or_istore E dL_seen_173 (by decide) ?_
        refine or_fg (f95 J2) ?_
        exact or_lv _ rfl (A175 J2 (l1 + nI e) l2' hJ2 (fun j hj => (hz2 j hj).trans (hc j hj)) (by rw [sE1, e1]) (by rw [sT1, e2', e2, c3]) (n8 + 1) 0 0 (by omega) (by omega) (Or.inl ⟨rfl, rfl⟩) (by omega))
      have L49 : ∀ (n : Nat) (J2 : ow_I) (j : Nat) (l2' : Int32), j ≤ e → (∀ a, a < z → J2 a = I a) → (∀ k, k < n8 → J2 z k = J z k) → srt (J2 zz) j → prm (J2 zz) (I (C + 1)) j → l2' = l2 + sumL (I (C + 1)) j → e - j < n → ow_W X (1 + b + 1) (6 + 9 * b + e) (iA (iA S z n8) zz e, J2, V, zz + 1) 49 [(0, .ref x), (1, .int l1), (2, .int l2'), (3, .int (nI (cSd I x b))), (4, .int l4), (5, .ref z), (6, .int (nI b)), (7, .int (nI 0)), (8, .int (nI e)), (9, .ref zz), (10, .int (nI j))] [] := by
        intro n
        induction n with
        | zero => intro J2 j l2' h1 h2 h3 h4 h5 h6 h7; omega
        | succ n ih49 =>
          intro J2 j l2' hj hJ2 hz2 hs hp e2' hm
          refine or_iload E rfl dL_seen_49 ?_
          refine or_iload E rfl dL_seen_51 ?_
          refine or_icmp_geN 131 E dL_seen_53 rfl (by omega) (by omega) (fun q53 => ?_) (fun q53 => ?_)
          · obtain rfl : j = e := by omega
            exact or_lv _ rfl (A131 J2 l2' hJ2 hz2 hs hp e2')
          have eLj := eL j (by omega)
          have A101 : ∀ (J3 : ow_I) (p : Nat), p ≤ j → (∀ a, a < z → J3 a = I a) → (∀ k, k < n8 → J3 z k = J z k) → (∀ k, k < p → J3 zz k = J2 zz k) → (∀ k, p ≤ k → k < j → J3 zz (k + 1) = J2 zz k ∧ I (C + 1) j < J2 zz k) → (p = 0 ∨ J2 zz (p - 1) ≤ I (C + 1) j) → ow_W X (1 + b + 1) (6 + 9 * b + e) (iA (iA S z n8) zz e, J3, V, zz + 1) 101 [(0, .ref x), (1, .int l1), (2, .int l2'), (3, .int (nI (cSd I x b))), (4, .int l4), (5, .ref z), (6, .int (nI b)), (7, .int (nI 0)), (8, .int (nI e)), (9, .ref zz), (10, .int (nI j)), (11, .int (nI p))] [] := by
            intro J3 p hpj hJ3 hz3 g1 g2 g3
            have f9J := f9 J3 hJ3
            refine or_aload E rfl dL_seen_101 ?_
            refine or_iload E rfl dL_seen_103 ?_
            refine or_aload_n E rfl dL_seen_105 ?_
            refine or_iload E rfl dL_seen_106 ?_
            refine or_iload E rfl dL_seen_108 ?_
            refine or_qV2 f9J (cA_length (Z := Z) h_x hI.1 (vb b hbn) (nI_ge0 (by omega)) (hLn j (by omega))) E G lk_120_82 dL_seen_110 h_x.1 rfl rfl (by decide) (by decide) ⟨by omega, by omega⟩ (Nat.le_of_ble_eq_true rfl) ?_
            refine or_top eLj ?_
            refine ot_iast (j := p) E dL_seen_113 S9zz rfl rfl (by omega) (by omega) ?_
            have hJ4 : ∀ a, a < z → ow_u J3 zz p (I (C + 1) j) a = I a := fun a ha => by
              funext k
              rw [ow_u_a _ _ _ _ (by omega)]
              exact congrFun (hJ3 a ha) k
            have f9K := f9 _ hJ4
            refine or_iload_n E rfl dL_seen_114 ?_
            refine or_aload_n E rfl dL_seen_115 ?_
            refine or_iload E rfl dL_seen_116 ?_
            refine or_iload E rfl dL_seen_118 ?_
            refine or_qV2 f9K (cA_length (Z := Z) h_x hI.1 (vb b hbn) (nI_ge0 (by omega)) (hLn j (by omega))) E G lk_120_82 dL_seen_120 h_x.1 rfl rfl (by decide) (by decide) ⟨by omega, by omega⟩ (Nat.le_of_ble_eq_true rfl) ?_
            refine or_top eLj ?_
            refine or_iadd E dL_seen_123 ?_
            refine or_istore_n E dL_seen_124 (by decide) ?_
            refine or_iincN (c := 1) E dL_seen_125 rfl rfl (by decide) ?_
            refine or_goto 49 E dL_seen_128 rfl ?_
            have i1 : ∀ k, k < p → ow_u J3 zz p (I (C + 1) j) zz k = J2 zz k := fun k hk => by rw [ow_u_k _ _ _ _ (by omega)]; exact g1 k hk
            have i2 : ow_u J3 zz p (I (C + 1) j) zz p = I (C + 1) j := ow_u_s _ _ _ _
            have i3 : ∀ k, p ≤ k → k < j → ow_u J3 zz p (I (C + 1) j) zz (k + 1) = J2 zz k ∧ I (C + 1) j < J2 zz k := fun k h1 h2 => by rw [ow_u_k _ _ _ _ (by omega)]; exact g2 k h1 h2
            refine or_lv _ ?_ (ih49 (ow_u J3 zz p (I (C + 1) j)) (j + 1) (l2' + I (C + 1) j) (by omega) hJ4 (fun k hk => ?_) (ins_s hs hpj i1 i2 i3 g3) (ins_p hp hpj i1 i2 (fun k h1 h2 => (i3 k h1 h2).1) rfl) ?_ (by omega))
            · rfl
            · rw [ow_u_a _ _ _ _ (by omega)]; exact hz3 k hk
            · rw [e2']
              exact Int32.add_assoc _ _ _
          have L60 : ∀ (n : Nat) (J3 : ow_I) (p : Nat), p ≤ j → (∀ a, a < z → J3 a = I a) → (∀ k, k < n8 → J3 z k = J z k) → (∀ k, k < p → J3 zz k = J2 zz k) → (∀ k, p ≤ k → k < j → J3 zz (k + 1) = J2 zz k ∧ I (C + 1) j < J2 zz k) → p < n → ow_W X (1 + b + 1) (6 + 9 * b + e) (iA (iA S z n8) zz e, J3, V, zz + 1) 60 [(0, .ref x), (1, .int l1), (2, .int l2'), (3, .int (nI (cSd I x b))), (4, .int l4), (5, .ref z), (6, .int (nI b)), (7, .int (nI 0)), (8, .int (nI e)), (9, .ref zz), (10, .int (nI j)), (11, .int (nI p))] [] := by
            intro n
            induction n with
            | zero => intro J3 p h1 h2 h3 h4 h5 h6; omega
            | succ n ih =>
              intro J3 p hpj hJ3 hz3 g1 g2 hn
              have f9J := f9 J3 hJ3
              refine or_iload E rfl dL_seen_60 ?_
              refine or_if_le 101 E dL_seen_62 rfl (fun q62 => ?_) (fun q62 => ?_)
              · have hp0 : p = 0 := Nat.le_zero.mp ((nI_le' (by omega) (by decide)).mp (show nI p ≤ nI 0 from q62))
                exact or_lv _ rfl (A101 J3 p hpj hJ3 hz3 g1 g2 (Or.inl hp0))
              have hp1 : 1 ≤ p := by
                refine Nat.pos_of_ne_zero (fun h => ?_)
                subst h
                exact q62 (Int32.le_refl _)
              refine or_aload E rfl dL_seen_65 ?_
              refine or_iload E rfl dL_seen_67 ?_
              refine or_iconst (v := nI 1) E rfl dL_seen_69 ?_
              refine or_isubN E dL_seen_70 (by omega) ?_
              refine ot_iald (j := p - 1) E dL_seen_71 S9zz rfl rfl (by omega) (by omega) ?_
              refine or_aload_n E rfl dL_seen_72 ?_
              refine or_iload E rfl dL_seen_73 ?_
              refine or_iload E rfl dL_seen_75 ?_
              refine or_qV2 f9J (cA_length (Z := Z) h_x hI.1 (vb b hbn) (nI_ge0 (by omega)) (hLn j (by omega))) E G lk_120_82 dL_seen_77 h_x.1 rfl rfl (by decide) (by decide) ⟨by omega, by omega⟩ (Nat.le_of_ble_eq_true rfl) ?_
              refine or_top eLj ?_
              refine or_icmp_le 101 E dL_seen_80 rfl (fun q80 => ?_) (fun q80 => ?_)
              · exact or_lv _ rfl (A101 J3 p hpj hJ3 hz3 g1 g2 (Or.inr (by rw [← g1 (p - 1) (by omega)]; exact q80)))
              refine or_aload E rfl dL_seen_83 ?_
              refine or_iload E rfl dL_seen_85 ?_
              refine or_aload E rfl dL_seen_87 ?_
              refine or_iload E rfl dL_seen_89 ?_
              refine or_iconst (v := nI 1) E rfl dL_seen_91 ?_
              refine or_isubN E dL_seen_92 (by omega) ?_
              refine ot_iald (j := p - 1) E dL_seen_93 S9zz rfl rfl (by omega) (by omega) ?_
              refine ot_iast (j := p) E dL_seen_94 S9zz rfl rfl (by omega) (by omega) ?_
              refine or_iincM E dL_seen_95 hp1 rfl (by decide) ?_
              refine or_goto 60 E dL_seen_98 rfl ?_
              refine or_lv _ ?_ (ih (ow_u J3 zz p (J3 zz (p - 1))) (p - 1) (by omega) (fun a ha => ?_) (fun k hk => ?_) (fun k hk => ?_) (fun k h1 h2 => ?_) (by omega))
              · rfl
              · funext k
                rw [ow_u_a _ _ _ _ (by omega)]
                exact congrFun (hJ3 a ha) k
              · rw [ow_u_a _ _ _ _ (by omega)]; exact hz3 k hk
              · rw [ow_u_k _ _ _ _ (by omega)]; exact g1 k (by omega)
              · by_cases hkp : k + 1 = p
                · subst hkp
                  rw [ow_u_s]
                  exact ⟨g1 k (by omega), by rw [← g1 k (by omega)]; exact i_lt q80⟩
                · rw [ow_u_k _ _ _ _ (by omega)]
                  exact g2 k (by omega) h2
          refine or_iload E rfl dL_seen_56 ?_
          refine or_istore E dL_seen_58 (by decide) ?_
          exact or_lv _ rfl (L60 (j + 1) J2 j (Nat.le_refl _) hJ2 hz2 (fun _ _ => rfl) (fun k h1 h2 => absurd h1 (by omega)) (by omega))
      refine or_iconst (v := nI 0) E rfl dL_seen_29 ?_
      refine or_istore E dL_seen_30 (by decide) ?_
      refine or_aload_n E rfl dL_seen_32 ?_
      refine or_iload E rfl dL_seen_33 ?_
      refine or_qV1 f5J (cA_eels (Z := Z) h_x hI.1.1 (vb b hbn)) E G lk_120_79 dL_seen_35 h_x.1 rfl rfl (by decide) (by decide) ⟨by omega, by omega⟩ (Nat.le_of_ble_eq_true rfl) ?_
      refine or_top ee ?_
      refine or_istore E dL_seen_38 (by decide) ?_
      refine or_iload E rfl dL_seen_40 ?_
      refine or_newa (atype := .int) (κ := ow_n) E (ow_T_in 97 (by decide +kernel) (by decide +kernel)) rfl (fun _ => rfl) dL_seen_42 (by omega) (by show e * 4 ≤ 536870912; omega) (by omega) (by omega) ?_
      refine or_astore E dL_seen_44 (by decide) ?_
      refine or_iconst (v := nI 0) E rfl dL_seen_46 ?_
      refine or_istore E dL_seen_47 (by decide) ?_
      refine or_lv _ ?_ (L49 (e + 1) (ow_nI J zz) 0 l2 (Nat.zero_le _) (fun a ha => ?_) (fun k hk => ?_) (fun i j h1 h2 => absurd h2 (by omega)) (fun v => ⟨rfl, rfl⟩) (Int32.add_zero _).symm (by omega))
      · rfl
      · funext k
        rw [ow_nI_o J (by omega)]
        exact congrFun (hJ a ha) k
      · exact congrFun (ow_nI_o J (show z ≠ zz by omega)) k
  refine or_iconst (v := nI 0) E rfl dL_seen_0 ?_
  refine or_istore_n E dL_seen_1 (by decide) ?_
  refine or_iconst (v := nI 0) E rfl dL_seen_2 ?_
  refine or_istore_n E dL_seen_3 (by decide) ?_
  refine or_iconst (v := nI 0) E rfl dL_seen_4 ?_
  refine or_istore_n E dL_seen_5 (by decide) ?_
  refine or_iconst (v := nI 0) E rfl dL_seen_6 ?_
  refine or_istore E dL_seen_7 (by decide) ?_
  refine or_aload_n E rfl dL_seen_9 ?_
  refine or_qV0 frm.rf (cA_buyerCount (Z := Z) h_x) E G lk_120_63 dL_seen_10 h_x.1 rfl rfl (by decide) (by decide) ⟨(Nat.le_of_ble_eq_true rfl), (Nat.le_of_ble_eq_true rfl)⟩ (Nat.le_of_ble_eq_true rfl) ?_
  refine or_top (show A_buyerCount x I = nI n8 from e8) ?_
  refine or_newa (atype := .int) (κ := ow_n) E (ow_T_in 97 (by decide +kernel) (by decide +kernel)) rfl (fun _ => rfl) dL_seen_13 (by omega) (by show n8 * 4 ≤ 536870912; omega) (Nat.le_of_ble_eq_true rfl) (by omega) ?_
  refine or_astore E dL_seen_15 (by decide) ?_
  refine or_iconst (v := nI 0) E rfl dL_seen_17 ?_
  refine or_istore E dL_seen_18 (by decide) ?_
  refine or_wd (cs' := 1 + 0) (sl' := 6 + 9 * 0) (by omega) (by omega) ?_
  refine or_lv _ ?_ (L20 (n10 + 1) (ow_nI I z) (z + 1) 0 (nI 0) (nI 0) (nI 0) (Nat.zero_le _) (by omega) (fun a ha => ?_) (fun j hj => ?_) rfl rfl rfl (by omega))
  · rfl
  · funext k
    exact congrFun (ow_nI_o I (show a ≠ z by omega)) k
  · show (if z = z then (0 : Int32) else _) = _
    rw [if_pos rfl]
    rfl
