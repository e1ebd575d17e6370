theorem lk_11_166 : ow_lv RX11 166 yX11_throwsIf cX11_throwsIf 3 (some .boolean) 2 := ⟨ow_T_in 1705 (by decide +kernel) (by decide +kernel), ow_T_in 1707 (by decide +kernel) (by decide +kernel), ow_T_sel 43 (by decide +kernel) (by decide +kernel), ow_T_in 19 (by decide +kernel) (by decide +kernel), ow_T_in 1708 (by decide +kernel) (by decide +kernel), ⟨by decide +kernel, by decide +kernel, by decide +kernel⟩⟩
theorem lk_11_250 : ow_lv RX11 250 yX11_failsAtSetup cX11_failsAtSetup 1 (some .boolean) 0 := ⟨ow_T_in 1736 (by decide +kernel) (by decide +kernel), ow_T_in 1738 (by decide +kernel) (by decide +kernel), ow_T_sel 46 (by decide +kernel) (by decide +kernel), ow_T_in 19 (by decide +kernel) (by decide +kernel), ow_T_in 1739 (by decide +kernel) (by decide +kernel), ⟨by decide +kernel, by decide +kernel, by decide +kernel⟩⟩
theorem lk_11_253 : ow_lv RX11 253 yX11_keep cX11_keep 2 none 1 := ⟨ow_T_in 1809 (by decide +kernel) (by decide +kernel), ow_T_in 1811 (by decide +kernel) (by decide +kernel), ow_T_sel 64 (by decide +kernel) (by decide +kernel), ow_T_in 19 (by decide +kernel) (by decide +kernel), ow_T_in 1812 (by decide +kernel) (by decide +kernel), ⟨by decide +kernel, by decide +kernel, by decide +kernel⟩⟩
theorem lk_11_256 : ow_lv RX11 256 yX11_failsAtBuyerNumber cX11_failsAtBuyerNumber 1 (some .boolean) 0 := ⟨ow_T_in 1829 (by decide +kernel) (by decide +kernel), ow_T_in 1831 (by decide +kernel) (by decide +kernel), ow_T_sel 68 (by decide +kernel) (by decide +kernel), ow_T_in 19 (by decide +kernel) (by decide +kernel), ow_T_in 1832 (by decide +kernel) (by decide +kernel), ⟨by decide +kernel, by decide +kernel, by decide +kernel⟩⟩
theorem lk_11_259 : ow_lv RX11 259 yX11_failsAtBarrelNumber cX11_failsAtBarrelNumber 1 (some .boolean) 0 := ⟨ow_T_in 1833 (by decide +kernel) (by decide +kernel), ow_T_in 1835 (by decide +kernel) (by decide +kernel), ow_T_sel 69 (by decide +kernel) (by decide +kernel), ow_T_in 19 (by decide +kernel) (by decide +kernel), ow_T_in 1836 (by decide +kernel) (by decide +kernel), ⟨by decide +kernel, by decide +kernel, by decide +kernel⟩⟩
def M_loadSetup (m : Nat) (I : ow_I) : Int32 × ow_I :=
  lt (ow_u I m 18 (nI 0)) (fun (I1 : ow_I) => lt (M_copyBlock m 0 11 I1) (fun (I2 : ow_I) => lt (M_failsAtSetup m I2) (fun (r3 : Bool × ow_I) => lt (ow_u r3.2 m 5 (nI 0)) (fun (I4 : ow_I) => if r3.1 then lt (M_copyBlock m 11 0 I4) (fun (I7 : ow_I) => lt (M_throwsIf m r3.1 (nI 1) I7) (fun (r8 : Bool × ow_I) => if r8.1 then (nI 0, r8.2) else lt (M_keep m 11 r8.2) (fun (I9 : ow_I) => (I9 (m + 1) 7, I9)))) else lt (M_throwsIf m r3.1 (nI 1) I4) (fun (r5 : Bool × ow_I) => if r5.1 then (nI 0, r5.2) else lt (M_keep m 11 r5.2) (fun (I6 : ow_I) => (I6 (m + 1) 7, I6)))))))
set_option maxRecDepth 100000 in
set_option maxHeartbeats 400000 in
theorem cM_loadSetup {S : Nat → Option ow_Sh} {I : ow_I} {V : Nat → Nat → Value} {z : Nat} {m : Nat} (h_m : md_S S m) (hl : 0 ≤ I m 5) (hlb : tn (I m 5) ≤ 500) (ho : 0 ≤ I m 1) (hob : tn (I m 1) < 8) (hk2 : 0 ≤ I m 2) (hkb : tn (I m 2) ≤ 8) : ow_Cf yX11_loadSetup cX11_loadSetup 2 (some .int) 8 [.ref m] (S, I, V, z) (some (.int ((M_loadSetup m I).1))) (S, (M_loadSetup m I).2, V, z) := by
  refine ow_Cf.of rfl (Nat.le_of_ble_eq_true rfl) (fun X K E F hk => ?_)
  have E : ow_E X RX11 cX11_loadSetup 2 (ow_rm 8 0 0) := E
  refine or_lv [(0, .ref m)] rfl ?_
  dsimp only [M_loadSetup] at hk
  refine or_aload_n E rfl dX11_loadSetup_0 ?_
  refine or_iconst (v := nI 0) E rfl dX11_loadSetup_1 ?_
  refine ot_putI E fl_11_54 fw_11_18 dX11_loadSetup_2 h_m.1 rfl ?_
  obtain ⟨I1, hI1⟩ : ∃ y_ : ow_I, y_ = ow_u I m 18 (nI 0) := ⟨_, rfl⟩
  replace hk := lt_k (P := fun r : Int32 × ow_I => K (some (.int ((r).1))) (S, (r).2, V, z)) hI1 hk
  refine or_nmI hI1 ?_
  refine or_aload_n E rfl dX11_loadSetup_5 ?_
  refine or_iconst (v := nI 0) E rfl dX11_loadSetup_6 ?_
  refine or_bipush (v := nI 11) E rfl dX11_loadSetup_7 ?_
  refine or_cV2v (cM_copyBlock  h_m (by decide) (by decide)) E lk_11_63 dX11_loadSetup_9 h_m.1 rfl rfl (by decide) (by decide) ⟨Nat.le_refl _, Nat.le_refl _⟩ (Nat.le_of_ble_eq_true rfl) ?_
  obtain ⟨I2, hI2⟩ : ∃ y_ : ow_I, y_ = M_copyBlock m 0 11 I1 := ⟨_, rfl⟩
  replace hk := lt_k (P := fun r : Int32 × ow_I => K (some (.int ((r).1))) (S, (r).2, V, z)) hI2 hk
  refine or_nmI hI2 ?_
  refine or_aload_n E rfl dX11_loadSetup_12 ?_
  refine or_cV0r (cM_failsAtSetup  h_m (by subst hI2 hI1; simp (disch := omega) only [rr_cb, ow_u_k]; exact hl) (by subst hI2 hI1; simp (disch := omega) only [rr_cb, ow_u_k]; exact hlb)) E lk_11_250 dX11_loadSetup_13 h_m.1 rfl rfl (by decide) (by decide) ⟨Nat.le_refl _, Nat.le_refl _⟩ (Nat.le_of_ble_eq_true rfl) ?_
  obtain ⟨r3, hr3⟩ : ∃ y_ : Bool × ow_I, y_ = M_failsAtSetup m I2 := ⟨_, rfl⟩
  replace hk := lt_k (P := fun r : Int32 × ow_I => K (some (.int ((r).1))) (S, (r).2, V, z)) hr3 hk
  refine or_nmZ hr3 ?_
  refine or_istore_n E dX11_loadSetup_16 (by decide) ?_
  refine or_aload_n E rfl dX11_loadSetup_17 ?_
  refine or_iconst (v := nI 0) E rfl dX11_loadSetup_18 ?_
  refine ot_putI E fl_11_163 fw_11_5 dX11_loadSetup_19 h_m.1 rfl ?_
  obtain ⟨I4, hI4⟩ : ∃ y_ : ow_I, y_ = ow_u r3.2 m 5 (nI 0) := ⟨_, rfl⟩
  replace hk := lt_k (P := fun r : Int32 × ow_I => K (some (.int ((r).1))) (S, (r).2, V, z)) hI4 hk
  refine or_nmI hI4 ?_
  refine or_iload_n E rfl dX11_loadSetup_22 ?_
  refine or_if_eqZ 33 E dX11_loadSetup_23 rfl (fun q23 => ?_) (fun q23 => ?_)
  · replace hk := ite_n (P := fun r : Int32 × ow_I => K (some (.int ((r).1))) (S, (r).2, V, z)) (bz_neg q23) hk
    refine or_aload_n E rfl dX11_loadSetup_33 ?_
    refine or_iload_n E rfl dX11_loadSetup_34 ?_
    refine or_iconst (v := nI 1) E rfl dX11_loadSetup_35 ?_
    refine or_cV2r (cM_throwsIf  h_m ) E lk_11_166 dX11_loadSetup_36 h_m.1 rfl rfl (by decide) (by decide) ⟨Nat.le_refl _, Nat.le_refl _⟩ (Nat.le_of_ble_eq_true rfl) ?_
    obtain ⟨r5, hr5⟩ : ∃ y_ : Bool × ow_I, y_ = M_throwsIf m r3.1 (nI 1) I4 := ⟨_, rfl⟩
    replace hk := lt_k (P := fun r : Int32 × ow_I => K (some (.int ((r).1))) (S, (r).2, V, z)) hr5 hk
    refine or_nmZ hr5 ?_
    refine or_if_eqZ 44 E dX11_loadSetup_39 rfl (fun q39 => ?_) (fun q39 => ?_)
    · replace hk := ite_n (P := fun r : Int32 × ow_I => K (some (.int ((r).1))) (S, (r).2, V, z)) (bz_neg q39) hk
      refine or_aload_n E rfl dX11_loadSetup_44 ?_
      refine or_bipush (v := nI 11) E rfl dX11_loadSetup_45 ?_
      refine or_cV1v (cM_keep  h_m (by decide) (by subst hr5 hI4 hr3 hI2 hI1; rw [fr_thr (by decide), ow_u_k _ _ _ _ (by decide), fr_set (by decide), rr_cb (by omega), ow_u_k _ _ _ _ (by decide)]; exact ho) (by subst hr5 hI4 hr3 hI2 hI1; rw [fr_thr (by decide), ow_u_k _ _ _ _ (by decide), fr_set (by decide), rr_cb (by omega), ow_u_k _ _ _ _ (by decide)]; exact hob) (by subst hr5 hI4 hr3 hI2 hI1; rw [fr_thr (by decide), ow_u_k _ _ _ _ (by decide), fr_set (by decide), rr_cb (by omega), ow_u_k _ _ _ _ (by decide)]; exact hk2) (by subst hr5 hI4 hr3 hI2 hI1; rw [fr_thr (by decide), ow_u_k _ _ _ _ (by decide), fr_set (by decide), rr_cb (by omega), ow_u_k _ _ _ _ (by decide)]; exact hkb)) E lk_11_253 dX11_loadSetup_47 h_m.1 rfl rfl (by decide) (by decide) ⟨Nat.le_refl _, Nat.le_refl _⟩ (Nat.le_of_ble_eq_true rfl) ?_
      obtain ⟨I6, hI6⟩ : ∃ y_ : ow_I, y_ = M_keep m 11 r5.2 := ⟨_, rfl⟩
      replace hk := lt_k (P := fun r : Int32 × ow_I => K (some (.int ((r).1))) (S, (r).2, V, z)) hI6 hk
      refine or_nmI hI6 ?_
      refine or_aload_n E rfl dX11_loadSetup_50 ?_
      refine ot_getC E fl_11_7 dX11_loadSetup_51 h_m.1 rfl ?_
      refine or_bipush (v := nI 7) E rfl dX11_loadSetup_54 ?_
      refine ot_iald (j := 7) E dX11_loadSetup_56 h_m.2.1 rfl rfl (by omega) (Nat.le_of_ble_eq_true rfl) ?_
      try dsimp only at hk
      exact or_iret E F dX11_loadSetup_57 (Nat.le_refl _) (Nat.le_refl _) hk
    · replace hk := ite_p (P := fun r : Int32 × ow_I => K (some (.int ((r).1))) (S, (r).2, V, z)) q39 hk
      refine or_iconst (v := nI 0) E rfl dX11_loadSetup_42 ?_
      try dsimp only at hk
      exact or_iret E F dX11_loadSetup_43 (Nat.le_refl _) (Nat.le_refl _) hk
  · replace hk := ite_p (P := fun r : Int32 × ow_I => K (some (.int ((r).1))) (S, (r).2, V, z)) q23 hk
    refine or_aload_n E rfl dX11_loadSetup_26 ?_
    refine or_bipush (v := nI 11) E rfl dX11_loadSetup_27 ?_
    refine or_iconst (v := nI 0) E rfl dX11_loadSetup_29 ?_
    refine or_cV2v (cM_copyBlock  h_m (by decide) (by decide)) E lk_11_63 dX11_loadSetup_30 h_m.1 rfl rfl (by decide) (by decide) ⟨Nat.le_refl _, Nat.le_refl _⟩ (Nat.le_of_ble_eq_true rfl) ?_
    obtain ⟨I7, hI7⟩ : ∃ y_ : ow_I, y_ = M_copyBlock m 11 0 I4 := ⟨_, rfl⟩
    replace hk := lt_k (P := fun r : Int32 × ow_I => K (some (.int ((r).1))) (S, (r).2, V, z)) hI7 hk
    refine or_nmI hI7 ?_
    refine or_aload_n E rfl dX11_loadSetup_33 ?_
    refine or_iload_n E rfl dX11_loadSetup_34 ?_
    refine or_iconst (v := nI 1) E rfl dX11_loadSetup_35 ?_
    refine or_cV2r (cM_throwsIf  h_m ) E lk_11_166 dX11_loadSetup_36 h_m.1 rfl rfl (by decide) (by decide) ⟨Nat.le_refl _, Nat.le_refl _⟩ (Nat.le_of_ble_eq_true rfl) ?_
    obtain ⟨r8, hr8⟩ : ∃ y_ : Bool × ow_I, y_ = M_throwsIf m r3.1 (nI 1) I7 := ⟨_, rfl⟩
    replace hk := lt_k (P := fun r : Int32 × ow_I => K (some (.int ((r).1))) (S, (r).2, V, z)) hr8 hk
    refine or_nmZ hr8 ?_
    refine or_if_eqZ 44 E dX11_loadSetup_39 rfl (fun q39 => ?_) (fun q39 => ?_)
    · replace hk := ite_n (P := fun r : Int32 × ow_I => K (some (.int ((r).1))) (S, (r).2, V, z)) (bz_neg q39) hk
      refine or_aload_n E rfl dX11_loadSetup_44 ?_
      refine or_bipush (v := nI 11) E rfl dX11_loadSetup_45 ?_
      refine or_cV1v (cM_keep  h_m (by decide) (by subst hr8 hI7 hI4 hr3 hI2 hI1; rw [fr_thr (by decide), rr_cb (by omega), ow_u_k _ _ _ _ (by decide), fr_set (by decide), rr_cb (by omega), ow_u_k _ _ _ _ (by decide)]; exact ho) (by subst hr8 hI7 hI4 hr3 hI2 hI1; rw [fr_thr (by decide), rr_cb (by omega), ow_u_k _ _ _ _ (by decide), fr_set (by decide), rr_cb (by omega), ow_u_k _ _ _ _ (by decide)]; exact hob) (by subst hr8 hI7 hI4 hr3 hI2 hI1; rw [fr_thr (by decide), rr_cb (by omega), ow_u_k _ _ _ _ (by decide), fr_set (by decide), rr_cb (by omega), ow_u_k _ _ _ _ (by decide)]; exact hk2) (by subst hr8 hI7 hI4 hr3 hI2 hI1; rw [fr_thr (by decide), rr_cb (by omega), ow_u_k _ _ _ _ (by decide), fr_set (by decide), rr_cb (by omega), ow_u_k _ _ _ _ (by decide)]; exact hkb)) E lk_11_253 dX11_loadSetup_47 h_m.1 rfl rfl (by decide) (by decide) ⟨Nat.le_refl _, Nat.le_refl _⟩ (Nat.le_of_ble_eq_true rfl) ?_
      obtain ⟨I9, hI9⟩ : ∃ y_ : ow_I, y_ = M_keep m 11 r8.2 := ⟨_, rfl⟩
      replace hk := lt_k (P := fun r : Int32 × ow_I => K (some (.int ((r).1))) (S, (r).2, V, z)) hI9 hk
      refine or_nmI hI9 ?_
      refine or_aload_n E rfl dX11_loadSetup_50 ?_
      refine ot_getC E fl_11_7 dX11_loadSetup_51 h_m.1 rfl ?_
      refine or_bipush (v := nI 7) E rfl dX11_loadSetup_54 ?_
      refine ot_iald (j := 7) E dX11_loadSetup_56 h_m.2.1 rfl rfl (by omega) (Nat.le_of_ble_eq_true rfl) ?_
      try dsimp only at hk
      exact or_iret E F dX11_loadSetup_57 (Nat.le_refl _) (Nat.le_refl _) hk
    · replace hk := ite_p (P := fun r : Int32 × ow_I => K (some (.int ((r).1))) (S, (r).2, V, z)) q39 hk
      refine or_iconst (v := nI 0) E rfl dX11_loadSetup_42 ?_
      try dsimp only at hk
      exact or_iret E F dX11_loadSetup_43 (Nat.le_refl _) (Nat.le_refl _) hk
def M_failsAtRest (m : Nat) (c : Int32) (I : ow_I) : Bool × ow_I :=
  if c = nI (3 + 0) then lt (M_failsAtBuyerNumber m I) (fun (r1 : Bool × ow_I) => (r1.1, r1.2)) else if c = nI (3 + 1) then lt (M_failsAtNumber m 0 (nI 1) (nI 200) I) (fun (r2 : Bool × ow_I) => (r2.1, r2.2)) else if c = nI (3 + 2) then lt (M_failsAtBarrelNumber m I) (fun (r3 : Bool × ow_I) => if r3.1 then (true, r3.2) else lt (M_failsAtNumber m 1 (nI 1) (nI 8) r3.2) (fun (r4 : Bool × ow_I) => if r4.1 then (true, r4.2) else (false, r4.2))) else if c = nI (3 + 3) then lt (M_failsAtBuyerNumber m I) (fun (r5 : Bool × ow_I) => if r5.1 then (true, r5.2) else lt (M_failsAtNumber m 1 (nI 1) (nI 9999) r5.2) (fun (r6 : Bool × ow_I) => if r6.1 then (true, r6.2) else (false, r6.2))) else lt (M_failsAtBarrelNumber m I) (fun (r7 : Bool × ow_I) => (r7.1, r7.2))
set_option maxRecDepth 100000 in
set_option maxHeartbeats 400000 in
theorem cM_failsAtRest {S : Nat → Option ow_Sh} {I : ow_I} {V : Nat → Nat → Value} {z : Nat} {m : Nat} {c : Int32} (h_m : md_S S m) (ht : md_T m I) : ow_Cf yX11_failsAtRest cX11_failsAtRest 2 (some .boolean) 6 [.ref m, .int c] (S, I, V, z) (some (.int (bi ((M_failsAtRest m c I).1)))) (S, (M_failsAtRest m c I).2, V, z) := by
  refine ow_Cf.of rfl (Nat.le_of_ble_eq_true rfl) (fun X K E F hk => ?_)
  have E : ow_E X RX11 cX11_failsAtRest 2 (ow_rm 6 0 0) := E
  refine or_lv [(0, .ref m), (1, .int c)] rfl ?_
  dsimp only [M_failsAtRest] at hk
  refine or_iload_n E rfl dX11_failsAtRest_0 ?_
  refine or_tab4 (lo := 3) 32 37 47 71 96 E dX11_failsAtRest_1 (by decide) rfl rfl rfl rfl rfl (fun q1_0 => ?_) (fun q1_0 q1_1 => ?_) (fun q1_0 q1_1 q1_2 => ?_) (fun q1_0 q1_1 q1_2 q1_3 => ?_) (fun q1_0 q1_1 q1_2 q1_3 => ?_)
  · replace hk := ite_p (P := fun r : Bool × ow_I => K (some (.int (bi ((r).1)))) (S, (r).2, V, z)) q1_0 hk
    refine or_aload_n E rfl dX11_failsAtRest_32 ?_
    refine or_cV0r (cM_failsAtBuyerNumber  h_m ht) E lk_11_256 dX11_failsAtRest_33 h_m.1 rfl rfl (by decide) (by decide) ⟨Nat.le_refl _, Nat.le_refl _⟩ (Nat.le_of_ble_eq_true rfl) ?_
    obtain ⟨r1, hr1⟩ : ∃ y_ : Bool × ow_I, y_ = M_failsAtBuyerNumber m I := ⟨_, rfl⟩
    replace hk := lt_k (P := fun r : Bool × ow_I => K (some (.int (bi ((r).1)))) (S, (r).2, V, z)) hr1 hk
    refine or_nmZ hr1 ?_
    try dsimp only at hk
    exact or_zret E F dX11_failsAtRest_36 (Nat.le_refl _) (Nat.le_refl _) (bi_nar _) hk
  · replace hk := ite_n (P := fun r : Bool × ow_I => K (some (.int (bi ((r).1)))) (S, (r).2, V, z)) q1_0 hk; replace hk := ite_p (P := fun r : Bool × ow_I => K (some (.int (bi ((r).1)))) (S, (r).2, V, z)) q1_1 hk
    refine or_aload_n E rfl dX11_failsAtRest_37 ?_
    refine or_iconst (v := nI 0) E rfl dX11_failsAtRest_38 ?_
    refine or_iconst (v := nI 1) E rfl dX11_failsAtRest_39 ?_
    refine or_sipush (v := nI 200) E rfl dX11_failsAtRest_40 ?_
    refine or_cV3r (cM_failsAtNumber  h_m (by decide) ht) E lk_11_226 dX11_failsAtRest_43 h_m.1 rfl rfl (by decide) (by decide) ⟨Nat.le_refl _, Nat.le_refl _⟩ (Nat.le_of_ble_eq_true rfl) ?_
    obtain ⟨r2, hr2⟩ : ∃ y_ : Bool × ow_I, y_ = M_failsAtNumber m 0 (nI 1) (nI 200) I := ⟨_, rfl⟩
    replace hk := lt_k (P := fun r : Bool × ow_I => K (some (.int (bi ((r).1)))) (S, (r).2, V, z)) hr2 hk
    refine or_nmZ hr2 ?_
    try dsimp only at hk
    exact or_zret E F dX11_failsAtRest_46 (Nat.le_refl _) (Nat.le_refl _) (bi_nar _) hk
  · replace hk := ite_n (P := fun r : Bool × ow_I => K (some (.int (bi ((r).1)))) (S, (r).2, V, z)) q1_0 hk; replace hk := ite_n (P := fun r : Bool × ow_I => K (some (.int (bi ((r).1)))) (S, (r).2, V, z)) q1_1 hk; replace hk := ite_p (P := fun r : Bool × ow_I => K (some (.int (bi ((r).1)))) (S, (r).2, V, z)) q1_2 hk
    refine or_aload_n E rfl dX11_failsAtRest_47 ?_
    refine or_cV0r (cM_failsAtBarrelNumber  h_m ht) E lk_11_259 dX11_failsAtRest_48 h_m.1 rfl rfl (by decide) (by decide) ⟨Nat.le_refl _, Nat.le_refl _⟩ (Nat.le_of_ble_eq_true rfl) ?_
    obtain ⟨r3, hr3⟩ : ∃ y_ : Bool × ow_I, y_ = M_failsAtBarrelNumber m I := ⟨_, rfl⟩
    replace hk := lt_k (P := fun r : Bool × ow_I => K (some (.int (bi ((r).1)))) (S, (r).2, V, z)) hr3 hk
    refine or_nmZ hr3 ?_
    refine or_if_neZ 65 E dX11_failsAtRest_51 rfl (fun q51 => ?_) (fun q51 => ?_)
    · replace hk := ite_p (P := fun r : Bool × ow_I => K (some (.int (bi ((r).1)))) (S, (r).2, V, z)) q51 hk
      refine or_iconst (v := nI 1) E rfl dX11_failsAtRest_65 ?_
      refine or_goto 70 E dX11_failsAtRest_66 rfl ?_
      try dsimp only at hk
      exact or_zret E F dX11_failsAtRest_70 (Nat.le_refl _) (Nat.le_refl _) (bi_nar true) hk
    · replace hk := ite_n (P := fun r : Bool × ow_I => K (some (.int (bi ((r).1)))) (S, (r).2, V, z)) (bz_neg q51) hk
      refine or_aload_n E rfl dX11_failsAtRest_54 ?_
      refine or_iconst (v := nI 1) E rfl dX11_failsAtRest_55 ?_
      refine or_iconst (v := nI 1) E rfl dX11_failsAtRest_56 ?_
      refine or_bipush (v := nI 8) E rfl dX11_failsAtRest_57 ?_
      refine or_cV3r (cM_failsAtNumber  h_m (by subst hr3; decide) (by subst hr3; exact (md_WT (W_num ht)))) E lk_11_226 dX11_failsAtRest_59 h_m.1 rfl rfl (by decide) (by decide) ⟨Nat.le_refl _, Nat.le_refl _⟩ (Nat.le_of_ble_eq_true rfl) ?_
      obtain ⟨r4, hr4⟩ : ∃ y_ : Bool × ow_I, y_ = M_failsAtNumber m 1 (nI 1) (nI 8) r3.2 := ⟨_, rfl⟩
      replace hk := lt_k (P := fun r : Bool × ow_I => K (some (.int (bi ((r).1)))) (S, (r).2, V, z)) hr4 hk
      refine or_nmZ hr4 ?_
      refine or_if_eqZ 69 E dX11_failsAtRest_62 rfl (fun q62 => ?_) (fun q62 => ?_)
      · replace hk := ite_n (P := fun r : Bool × ow_I => K (some (.int (bi ((r).1)))) (S, (r).2, V, z)) (bz_neg q62) hk
        refine or_iconst (v := nI 0) E rfl dX11_failsAtRest_69 ?_
        try dsimp only at hk
        exact or_zret E F dX11_failsAtRest_70 (Nat.le_refl _) (Nat.le_refl _) (bi_nar false) hk
      · replace hk := ite_p (P := fun r : Bool × ow_I => K (some (.int (bi ((r).1)))) (S, (r).2, V, z)) q62 hk
        refine or_iconst (v := nI 1) E rfl dX11_failsAtRest_65 ?_
        refine or_goto 70 E dX11_failsAtRest_66 rfl ?_
        try dsimp only at hk
        exact or_zret E F dX11_failsAtRest_70 (Nat.le_refl _) (Nat.le_refl _) (bi_nar true) hk
  · replace hk := ite_n (P := fun r : Bool × ow_I => K (some (.int (bi ((r).1)))) (S, (r).2, V, z)) q1_0 hk; replace hk := ite_n (P := fun r : Bool × ow_I => K (some (.int (bi ((r).1)))) (S, (r).2, V, z)) q1_1 hk; replace hk := ite_n (P := fun r : Bool × ow_I => K (some (.int (bi ((r).1)))) (S, (r).2, V, z)) q1_2 hk; replace hk := ite_p (P := fun r : Bool × ow_I => K (some (.int (bi ((r).1)))) (S, (r).2, V, z)) q1_3 hk
    refine or_aload_n E rfl dX11_failsAtRest_71 ?_
    refine or_cV0r (cM_failsAtBuyerNumber  h_m ht) E lk_11_256 dX11_failsAtRest_72 h_m.1 rfl rfl (by decide) (by decide) ⟨Nat.le_refl _, Nat.le_refl _⟩ (Nat.le_of_ble_eq_true rfl) ?_
    obtain ⟨r5, hr5⟩ : ∃ y_ : Bool × ow_I, y_ = M_failsAtBuyerNumber m I := ⟨_, rfl⟩
    replace hk := lt_k (P := fun r : Bool × ow_I => K (some (.int (bi ((r).1)))) (S, (r).2, V, z)) hr5 hk
    refine or_nmZ hr5 ?_
    refine or_if_neZ 90 E dX11_failsAtRest_75 rfl (fun q75 => ?_) (fun q75 => ?_)
    · replace hk := ite_p (P := fun r : Bool × ow_I => K (some (.int (bi ((r).1)))) (S, (r).2, V, z)) q75 hk
      refine or_iconst (v := nI 1) E rfl dX11_failsAtRest_90 ?_
      refine or_goto 95 E dX11_failsAtRest_91 rfl ?_
      try dsimp only at hk
      exact or_zret E F dX11_failsAtRest_95 (Nat.le_refl _) (Nat.le_refl _) (bi_nar true) hk
    · replace hk := ite_n (P := fun r : Bool × ow_I => K (some (.int (bi ((r).1)))) (S, (r).2, V, z)) (bz_neg q75) hk
      refine or_aload_n E rfl dX11_failsAtRest_78 ?_
      refine or_iconst (v := nI 1) E rfl dX11_failsAtRest_79 ?_
      refine or_iconst (v := nI 1) E rfl dX11_failsAtRest_80 ?_
      refine or_sipush (v := nI 9999) E rfl dX11_failsAtRest_81 ?_
      refine or_cV3r (cM_failsAtNumber  h_m (by subst hr5; decide) (by subst hr5; exact (md_WT (W_num ht)))) E lk_11_226 dX11_failsAtRest_84 h_m.1 rfl rfl (by decide) (by decide) ⟨Nat.le_refl _, Nat.le_refl _⟩ (Nat.le_of_ble_eq_true rfl) ?_
      obtain ⟨r6, hr6⟩ : ∃ y_ : Bool × ow_I, y_ = M_failsAtNumber m 1 (nI 1) (nI 9999) r5.2 := ⟨_, rfl⟩
      replace hk := lt_k (P := fun r : Bool × ow_I => K (some (.int (bi ((r).1)))) (S, (r).2, V, z)) hr6 hk
      refine or_nmZ hr6 ?_
      refine or_if_eqZ 94 E dX11_failsAtRest_87 rfl (fun q87 => ?_) (fun q87 => ?_)
      · replace hk := ite_n (P := fun r : Bool × ow_I => K (some (.int (bi ((r).1)))) (S, (r).2, V, z)) (bz_neg q87) hk
        refine or_iconst (v := nI 0) E rfl dX11_failsAtRest_94 ?_
        try dsimp only at hk
        exact or_zret E F dX11_failsAtRest_95 (Nat.le_refl _) (Nat.le_refl _) (bi_nar false) hk
      · replace hk := ite_p (P := fun r : Bool × ow_I => K (some (.int (bi ((r).1)))) (S, (r).2, V, z)) q87 hk
        refine or_iconst (v := nI 1) E rfl dX11_failsAtRest_90 ?_
        refine or_goto 95 E dX11_failsAtRest_91 rfl ?_
        try dsimp only at hk
        exact or_zret E F dX11_failsAtRest_95 (Nat.le_refl _) (Nat.le_refl _) (bi_nar true) hk
  · replace hk := ite_n (P := fun r : Bool × ow_I => K (some (.int (bi ((r).1)))) (S, (r).2, V, z)) q1_0 hk; replace hk := ite_n (P := fun r : Bool × ow_I => K (some (.int (bi ((r).1)))) (S, (r).2, V, z)) q1_1 hk; replace hk := ite_n (P := fun r : Bool × ow_I => K (some (.int (bi ((r).1)))) (S, (r).2, V, z)) q1_2 hk; replace hk := ite_n (P := fun r : Bool × ow_I => K (some (.int (bi ((r).1)))) (S, (r).2, V, z)) q1_3 hk
    refine or_aload_n E rfl dX11_failsAtRest_96 ?_
    refine or_cV0r (cM_failsAtBarrelNumber  h_m ht) E lk_11_259 dX11_failsAtRest_97 h_m.1 rfl rfl (by decide) (by decide) ⟨Nat.le_refl _, Nat.le_refl _⟩ (Nat.le_of_ble_eq_true rfl) ?_
    obtain ⟨r7, hr7⟩ : ∃ y_ : Bool × ow_I, y_ = M_failsAtBarrelNumber m I := ⟨_, rfl⟩
    replace hk := lt_k (P := fun r : Bool × ow_I => K (some (.int (bi ((r).1)))) (S, (r).2, V, z)) hr7 hk
    refine or_nmZ hr7 ?_
    try dsimp only at hk
    exact or_zret E F dX11_failsAtRest_100 (Nat.le_refl _) (Nat.le_refl _) (bi_nar _) hk
