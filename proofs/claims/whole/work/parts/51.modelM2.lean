theorem aw5 {m : Nat} {a : Int32} {I : ow_I} (h0 : 0 ≤ I m 5) (h : tn (I m 5) ≤ 480) : 0 ≤ M_appendWord m a I m 5 ∧ tn (M_appendWord m a I m 5) = tn (I m 5) + 4 := aw_5 h0 (by omega)
theorem aw5b {m : Nat} {a b : Int32} {I : ow_I} (h0 : 0 ≤ I m 5) (h : tn (I m 5) ≤ 480) : 0 ≤ M_appendWord m b (M_appendWord m a I) m 5 ∧ tn (M_appendWord m b (M_appendWord m a I) m 5) = tn (I m 5) + 8 := by
  have r := aw5 (a := a) h0 h
  have s := aw_5 (w := b) r.1 (by omega)
  exact ⟨s.1, by omega⟩
theorem aw5c {m : Nat} {a b c : Int32} {I : ow_I} (h0 : 0 ≤ I m 5) (h : tn (I m 5) ≤ 480) : 0 ≤ M_appendWord m c (M_appendWord m b (M_appendWord m a I)) m 5 ∧ tn (M_appendWord m c (M_appendWord m b (M_appendWord m a I)) m 5) = tn (I m 5) + 12 := by
  have r := aw5b (a := a) (b := b) h0 h
  have s := aw_5 (w := c) r.1 (by omega)
  exact ⟨s.1, by omega⟩
theorem aw5d {m : Nat} {a b c d : Int32} {I : ow_I} (h0 : 0 ≤ I m 5) (h : tn (I m 5) ≤ 480) : 0 ≤ M_appendWord m d (M_appendWord m c (M_appendWord m b (M_appendWord m a I))) m 5 ∧ tn (M_appendWord m d (M_appendWord m c (M_appendWord m b (M_appendWord m a I))) m 5) = tn (I m 5) + 16 := by
  have r := aw5c (a := a) (b := b) (c := c) h0 h
  have s := aw_5 (w := d) r.1 (by omega)
  exact ⟨s.1, by omega⟩
theorem fl_11_13 : ow_fl RX11 13 11 3 := ⟨_, rfl, by decide, ow_T_in 1638 (by decide +kernel) (by decide +kernel), ow_ok11⟩
theorem lk_11_170 : ow_lv RX11 170 yX11_appendWord cX11_appendWord 3 none 1 := ⟨ow_T_in 1709 (by decide +kernel) (by decide +kernel), ow_T_in 1711 (by decide +kernel) (by decide +kernel), ow_T_sel 44 (by decide +kernel) (by decide +kernel), ow_T_in 19 (by decide +kernel) (by decide +kernel), ow_T_in 1712 (by decide +kernel) (by decide +kernel), ⟨by decide +kernel, by decide +kernel, by decide +kernel⟩⟩
def M_withdraw (m : Nat) (b : Int32) (I : ow_I) : Int32 × ow_I :=
  lt (M_lacksBarrel m b I) (fun (r1 : Bool × ow_I) => if r1.1 then (nI 0, r1.2) else if M_isWaiting m (tn b) r1.2 then lt (M_keep m 0 r1.2) (fun (I2 : ow_I) => lt (M_withdrawNow m (tn b) I2) (fun (r3 : Int32 × ow_I) => (r3.1, r3.2))) else lt (ow_u r1.2 m 18 (nI 2)) (fun (I4 : ow_I) => (nI 0, I4)))
set_option maxRecDepth 100000 in
set_option maxHeartbeats 400000 in
theorem cM_withdraw {S : Nat → Option ow_Sh} {I : ow_I} {V : Nat → Nat → Value} {z : Nat} {m : Nat} {b : Int32} (h_m : md_S S m) (hv : md_V (I (m + 1))) (ho : 0 ≤ I m 1) (hob : tn (I m 1) < 8) (hk2 : 0 ≤ I m 2) (hkb : tn (I m 2) ≤ 8) : ow_Cf yX11_withdraw cX11_withdraw 2 (some .int) 2 [.ref m, .int b] (S, I, V, z) (some (.int ((M_withdraw m b I).1))) (S, (M_withdraw m b I).2, V, z) := by
  refine ow_Cf.of rfl (Nat.le_of_ble_eq_true rfl) (fun X K E F hk => ?_)
  have E : ow_E X RX11 cX11_withdraw 2 (ow_rm 2 0 0) := E
  refine or_lv [(0, .ref m), (1, .int b)] rfl ?_
  dsimp only [M_withdraw] at hk
  refine or_aload_n E rfl dX11_withdraw_0 ?_
  refine or_iload_n E rfl dX11_withdraw_1 ?_
  refine or_cV1r (cM_lacksBarrel  h_m ) E lk_11_308 dX11_withdraw_2 h_m.1 rfl rfl (by decide) (by decide) ⟨Nat.le_refl _, Nat.le_refl _⟩ (Nat.le_of_ble_eq_true rfl) ?_
  obtain ⟨r1, hr1⟩ : ∃ y_ : Bool × ow_I, y_ = M_lacksBarrel m b I := ⟨_, rfl⟩
  replace hk := lt_k (P := fun r : Int32 × ow_I => K (some (.int ((r).1))) (S, (r).2, V, z)) hr1 hk
  refine or_nmZ hr1 ?_
  refine or_if_neZ 29 E dX11_withdraw_5 rfl (fun q5 => ?_) (fun q5 => ?_)
  · replace hk := ite_p (P := fun r : Int32 × ow_I => K (some (.int ((r).1))) (S, (r).2, V, z)) q5 hk
    refine or_iconst (v := nI 0) E rfl dX11_withdraw_29 ?_
    try dsimp only at hk
    exact or_iret E F dX11_withdraw_30 (Nat.le_refl _) (Nat.le_refl _) hk
  · replace hk := ite_n (P := fun r : Int32 × ow_I => K (some (.int ((r).1))) (S, (r).2, V, z)) (bz_neg q5) hk
    refine or_aload_n E rfl dX11_withdraw_8 ?_
    refine or_aload_n E rfl dX11_withdraw_9 ?_
    refine or_iload_n E rfl dX11_withdraw_10 ?_
    refine or_top (nI_tn (by subst hr1; exact (lB_1 hv q5).1)).symm ?_
    refine or_cV1r (cM_isWaiting  h_m (by subst hr1; have h := (lB_1 hv q5).2; have := hv.2.2.1; omega)) E lk_11_156 dX11_withdraw_11 h_m.1 rfl rfl (by decide) (by decide) ⟨Nat.le_refl _, Nat.le_refl _⟩ (Nat.le_of_ble_eq_true rfl) ?_
    refine or_if_neZ 21 E dX11_withdraw_14 rfl (fun q14 => ?_) (fun q14 => ?_)
    · replace hk := ite_p (P := fun r : Int32 × ow_I => K (some (.int ((r).1))) (S, (r).2, V, z)) q14 hk
      refine or_iconst (v := nI 0) E rfl dX11_withdraw_21 ?_
      refine or_iconst (v := nI 2) E rfl dX11_withdraw_22 ?_
      refine or_cV2r (cM_thrF h_m) E lk_11_166 dX11_withdraw_23 h_m.1 rfl rfl (by decide) (by decide) ⟨Nat.le_refl _, Nat.le_refl _⟩ (Nat.le_of_ble_eq_true rfl) ?_
      refine or_if_eqZ 31 E dX11_withdraw_26 rfl (fun q26 => ?_) (fun q26 => absurd q26 (by decide))
      refine or_aload_n E rfl dX11_withdraw_31 ?_
      refine or_iconst (v := nI 0) E rfl dX11_withdraw_32 ?_
      refine or_cV1v (cM_keep  h_m (by decide) (by subst hr1; rw [fr_lB (by decide)]; exact ho) (by subst hr1; rw [fr_lB (by decide)]; exact hob) (by subst hr1; rw [fr_lB (by decide)]; exact hk2) (by subst hr1; rw [fr_lB (by decide)]; exact hkb)) E lk_11_253 dX11_withdraw_33 h_m.1 rfl rfl (by decide) (by decide) ⟨Nat.le_refl _, Nat.le_refl _⟩ (Nat.le_of_ble_eq_true rfl) ?_
      obtain ⟨I2, hI2⟩ : ∃ y_ : ow_I, y_ = M_keep m 0 r1.2 := ⟨_, rfl⟩
      replace hk := lt_k (P := fun r : Int32 × ow_I => K (some (.int ((r).1))) (S, (r).2, V, z)) hI2 hk
      refine or_nmI hI2 ?_
      refine or_aload_n E rfl dX11_withdraw_36 ?_
      refine or_iload_n E rfl dX11_withdraw_37 ?_
      refine or_top (nI_tn (by subst hI2 hr1; exact (lB_1 hv q5).1)).symm ?_
      refine or_cV1r (cM_withdrawNow  h_m (p:=(wd_h (m := m) (b := tn b) (J := r1.2) (by rw [hr1, fr_lB (by decide)]; exact ho) (by rw [hr1, fr_lB (by decide)]; exact hk2) (by rw [hr1, lB_A]; exact hv) (by rw [hr1] at q5; rw [hr1, lB_A]; exact (lB_1 hv q5).2) q14).choose) (by subst hI2 hr1; have h := (lB_1 hv q5).2; have := hv.2.2.1; omega) (by rw [hI2]; exact (wd_h (m := m) (b := tn b) (J := r1.2) (by rw [hr1, fr_lB (by decide)]; exact ho) (by rw [hr1, fr_lB (by decide)]; exact hk2) (by rw [hr1, lB_A]; exact hv) (by rw [hr1] at q5; rw [hr1, lB_A]; exact (lB_1 hv q5).2) q14).choose_spec.1) (by rw [hI2]; exact (wd_h (m := m) (b := tn b) (J := r1.2) (by rw [hr1, fr_lB (by decide)]; exact ho) (by rw [hr1, fr_lB (by decide)]; exact hk2) (by rw [hr1, lB_A]; exact hv) (by rw [hr1] at q5; rw [hr1, lB_A]; exact (lB_1 hv q5).2) q14).choose_spec.2) (by subst hI2 hr1; exact ((V_keep (by rw [lB_A]; exact hv) (by rw [fr_lB (by decide)]; exact ho) (by rw [fr_lB (by decide)]; exact hk2) (Or.inl rfl))).2.2.2.2.2.1.1) (by subst hI2 hr1; exact ((V_keep (by rw [lB_A]; exact hv) (by rw [fr_lB (by decide)]; exact ho) (by rw [fr_lB (by decide)]; exact hk2) (Or.inl rfl))).2.2.2.2.2.1.2)) E lk_11_278 dX11_withdraw_38 h_m.1 rfl rfl (by decide) (by decide) ⟨Nat.le_refl _, Nat.le_refl _⟩ (Nat.le_of_ble_eq_true rfl) ?_
      obtain ⟨r3, hr3⟩ : ∃ y_ : Int32 × ow_I, y_ = M_withdrawNow m (tn b) I2 := ⟨_, rfl⟩
      replace hk := lt_k (P := fun r : Int32 × ow_I => K (some (.int ((r).1))) (S, (r).2, V, z)) hr3 hk
      refine or_nmJ hr3 ?_
      try dsimp only at hk
      exact or_iret E F dX11_withdraw_41 (Nat.le_refl _) (Nat.le_refl _) hk
    · replace hk := ite_n (P := fun r : Int32 × ow_I => K (some (.int ((r).1))) (S, (r).2, V, z)) (bz_neg q14) hk
      refine or_iconst (v := nI 1) E rfl dX11_withdraw_17 ?_
      refine or_goto 22 E dX11_withdraw_18 rfl ?_
      refine or_iconst (v := nI 2) E rfl dX11_withdraw_22 ?_
      refine or_cV2r (cM_thrT h_m) E lk_11_166 dX11_withdraw_23 h_m.1 rfl rfl (by decide) (by decide) ⟨Nat.le_refl _, Nat.le_refl _⟩ (Nat.le_of_ble_eq_true rfl) ?_
      obtain ⟨I4, hI4⟩ : ∃ y_ : ow_I, y_ = ow_u r1.2 m 18 (nI 2) := ⟨_, rfl⟩
      replace hk := lt_k (P := fun r : Int32 × ow_I => K (some (.int ((r).1))) (S, (r).2, V, z)) hI4 hk
      refine or_nmI hI4 ?_
      refine or_if_eqZ 31 E dX11_withdraw_26 rfl (fun q26 => absurd q26 (by decide)) (fun q26 => ?_)
      refine or_iconst (v := nI 0) E rfl dX11_withdraw_29 ?_
      try dsimp only at hk
      exact or_iret E F dX11_withdraw_30 (Nat.le_refl _) (Nat.le_refl _) hk
def M_fund (m : Nat) (b : Int32) (x : Int32) (I : ow_I) : Int32 × ow_I :=
  lt (M_lacksBuyer m b I) (fun (r1 : Bool × ow_I) => if r1.1 then (nI 0, r1.2) else if M_in x (nI 1) (nI 9999) r1.2 then lt (M_keep m 0 r1.2) (fun (I2 : ow_I) => lt (M_fundNow m (tn b) x I2) (fun (r3 : Int32 × ow_I) => (r3.1, r3.2))) else lt (ow_u r1.2 m 18 (nI 2)) (fun (I4 : ow_I) => (nI 0, I4)))
set_option maxRecDepth 100000 in
set_option maxHeartbeats 400000 in
theorem cM_fund {S : Nat → Option ow_Sh} {I : ow_I} {V : Nat → Nat → Value} {z : Nat} {m : Nat} {b : Int32} {x : Int32} (h_m : md_S S m) (hv : md_V (I (m + 1))) (ho : 0 ≤ I m 1) (hob : tn (I m 1) < 8) (hk2 : 0 ≤ I m 2) (hkb : tn (I m 2) ≤ 8) : ow_Cf yX11_fund cX11_fund 3 (some .int) 2 [.ref m, .int b, .int x] (S, I, V, z) (some (.int ((M_fund m b x I).1))) (S, (M_fund m b x I).2, V, z) := by
  refine ow_Cf.of rfl (Nat.le_of_ble_eq_true rfl) (fun X K E F hk => ?_)
  have E : ow_E X RX11 cX11_fund 3 (ow_rm 2 0 0) := E
  refine or_lv [(0, .ref m), (1, .int b), (2, .int x)] rfl ?_
  dsimp only [M_fund] at hk
  refine or_aload_n E rfl dX11_fund_0 ?_
  refine or_iload_n E rfl dX11_fund_1 ?_
  refine or_cV1r (cM_lacksBuyer  h_m ) E lk_11_305 dX11_fund_2 h_m.1 rfl rfl (by decide) (by decide) ⟨Nat.le_refl _, Nat.le_refl _⟩ (Nat.le_of_ble_eq_true rfl) ?_
  obtain ⟨r1, hr1⟩ : ∃ y_ : Bool × ow_I, y_ = M_lacksBuyer m b I := ⟨_, rfl⟩
  replace hk := lt_k (P := fun r : Int32 × ow_I => K (some (.int ((r).1))) (S, (r).2, V, z)) hr1 hk
  refine or_nmZ hr1 ?_
  refine or_if_neZ 32 E dX11_fund_5 rfl (fun q5 => ?_) (fun q5 => ?_)
  · replace hk := ite_p (P := fun r : Int32 × ow_I => K (some (.int ((r).1))) (S, (r).2, V, z)) q5 hk
    refine or_iconst (v := nI 0) E rfl dX11_fund_32 ?_
    try dsimp only at hk
    exact or_iret E F dX11_fund_33 (Nat.le_refl _) (Nat.le_refl _) hk
  · replace hk := ite_n (P := fun r : Int32 × ow_I => K (some (.int ((r).1))) (S, (r).2, V, z)) (bz_neg q5) hk
    refine or_aload_n E rfl dX11_fund_8 ?_
    refine or_iload_n E rfl dX11_fund_9 ?_
    refine or_iconst (v := nI 1) E rfl dX11_fund_10 ?_
    refine or_sipush (v := nI 9999) E rfl dX11_fund_11 ?_
    refine or_cS3r (cM_in   ) E lk_11_173 dX11_fund_14 (by decide) (by decide) ⟨Nat.le_refl _, Nat.le_refl _⟩ (Nat.le_of_ble_eq_true rfl) ?_
    refine or_if_neZ 24 E dX11_fund_17 rfl (fun q17 => ?_) (fun q17 => ?_)
    · replace hk := ite_p (P := fun r : Int32 × ow_I => K (some (.int ((r).1))) (S, (r).2, V, z)) q17 hk
      refine or_iconst (v := nI 0) E rfl dX11_fund_24 ?_
      refine or_iconst (v := nI 2) E rfl dX11_fund_25 ?_
      refine or_cV2r (cM_thrF h_m) E lk_11_166 dX11_fund_26 h_m.1 rfl rfl (by decide) (by decide) ⟨Nat.le_refl _, Nat.le_refl _⟩ (Nat.le_of_ble_eq_true rfl) ?_
      refine or_if_eqZ 34 E dX11_fund_29 rfl (fun q29 => ?_) (fun q29 => absurd q29 (by decide))
      refine or_aload_n E rfl dX11_fund_34 ?_
      refine or_iconst (v := nI 0) E rfl dX11_fund_35 ?_
      refine or_cV1v (cM_keep  h_m (by decide) (by subst hr1; rw [fr_lb (by decide)]; exact ho) (by subst hr1; rw [fr_lb (by decide)]; exact hob) (by subst hr1; rw [fr_lb (by decide)]; exact hk2) (by subst hr1; rw [fr_lb (by decide)]; exact hkb)) E lk_11_253 dX11_fund_36 h_m.1 rfl rfl (by decide) (by decide) ⟨Nat.le_refl _, Nat.le_refl _⟩ (Nat.le_of_ble_eq_true rfl) ?_
      obtain ⟨I2, hI2⟩ : ∃ y_ : ow_I, y_ = M_keep m 0 r1.2 := ⟨_, rfl⟩
      replace hk := lt_k (P := fun r : Int32 × ow_I => K (some (.int ((r).1))) (S, (r).2, V, z)) hI2 hk
      refine or_nmI hI2 ?_
      refine or_aload_n E rfl dX11_fund_39 ?_
      refine or_iload_n E rfl dX11_fund_40 ?_
      refine or_top (nI_tn (by subst hI2 hr1; exact (lb_1 hv q5).1)).symm ?_
      refine or_iload_n E rfl dX11_fund_41 ?_
      refine or_cV2r (cM_fundNow  h_m (by subst hI2 hr1; have h := (lb_1 hv q5).2; have := hv.2.1; omega)) E lk_11_293 dX11_fund_42 h_m.1 rfl rfl (by decide) (by decide) ⟨Nat.le_refl _, Nat.le_refl _⟩ (Nat.le_of_ble_eq_true rfl) ?_
      obtain ⟨r3, hr3⟩ : ∃ y_ : Int32 × ow_I, y_ = M_fundNow m (tn b) x I2 := ⟨_, rfl⟩
      replace hk := lt_k (P := fun r : Int32 × ow_I => K (some (.int ((r).1))) (S, (r).2, V, z)) hr3 hk
      refine or_nmJ hr3 ?_
      try dsimp only at hk
      exact or_iret E F dX11_fund_45 (Nat.le_refl _) (Nat.le_refl _) hk
    · replace hk := ite_n (P := fun r : Int32 × ow_I => K (some (.int ((r).1))) (S, (r).2, V, z)) (bz_neg q17) hk
      refine or_iconst (v := nI 1) E rfl dX11_fund_20 ?_
      refine or_goto 25 E dX11_fund_21 rfl ?_
      refine or_iconst (v := nI 2) E rfl dX11_fund_25 ?_
      refine or_cV2r (cM_thrT h_m) E lk_11_166 dX11_fund_26 h_m.1 rfl rfl (by decide) (by decide) ⟨Nat.le_refl _, Nat.le_refl _⟩ (Nat.le_of_ble_eq_true rfl) ?_
      obtain ⟨I4, hI4⟩ : ∃ y_ : ow_I, y_ = ow_u r1.2 m 18 (nI 2) := ⟨_, rfl⟩
      replace hk := lt_k (P := fun r : Int32 × ow_I => K (some (.int ((r).1))) (S, (r).2, V, z)) hI4 hk
      refine or_nmI hI4 ?_
      refine or_if_eqZ 34 E dX11_fund_29 rfl (fun q29 => absurd q29 (by decide)) (fun q29 => ?_)
      refine or_iconst (v := nI 0) E rfl dX11_fund_32 ?_
      try dsimp only at hk
      exact or_iret E F dX11_fund_33 (Nat.le_refl _) (Nat.le_refl _) hk
def M_setReserve (m : Nat) (b : Int32) (r : Int32) (I : ow_I) : Int32 × ow_I :=
  lt (M_lacksBarrel m b I) (fun (r1 : Bool × ow_I) => if r1.1 then (nI 0, r1.2) else if M_in r (nI 1) (nI 999) r1.2 then if M_isWaiting m (tn b) r1.2 then lt (M_keep m 0 r1.2) (fun (I2 : ow_I) => lt (M_putBarrel m (tn b) 10 r I2) (fun (I3 : ow_I) => (M_ofBarrel m (tn b) 10 I2, I3))) else lt (ow_u r1.2 m 18 (nI 3)) (fun (I4 : ow_I) => (nI 0, I4)) else lt (ow_u r1.2 m 18 (nI 2)) (fun (I5 : ow_I) => (nI 0, I5)))
set_option maxRecDepth 100000 in
set_option maxHeartbeats 400000 in
theorem cM_setReserve {S : Nat → Option ow_Sh} {I : ow_I} {V : Nat → Nat → Value} {z : Nat} {m : Nat} {b : Int32} {r : Int32} (h_m : md_S S m) (hv : md_V (I (m + 1))) (ho : 0 ≤ I m 1) (hob : tn (I m 1) < 8) (hk2 : 0 ≤ I m 2) (hkb : tn (I m 2) ≤ 8) : ow_Cf yX11_setReserve cX11_setReserve 4 (some .int) 2 [.ref m, .int b, .int r] (S, I, V, z) (some (.int ((M_setReserve m b r I).1))) (S, (M_setReserve m b r I).2, V, z) := by
  refine ow_Cf.of rfl (Nat.le_of_ble_eq_true rfl) (fun X K E F hk => ?_)
  have E : ow_E X RX11 cX11_setReserve 4 (ow_rm 2 0 0) := E
  refine or_lv [(0, .ref m), (1, .int b), (2, .int r)] rfl ?_
  dsimp only [M_setReserve] at hk
  refine or_aload_n E rfl dX11_setReserve_0 ?_
  refine or_iload_n E rfl dX11_setReserve_1 ?_
  refine or_cV1r (cM_lacksBarrel  h_m ) E lk_11_308 dX11_setReserve_2 h_m.1 rfl rfl (by decide) (by decide) ⟨Nat.le_refl _, Nat.le_refl _⟩ (Nat.le_of_ble_eq_true rfl) ?_
  obtain ⟨r1, hr1⟩ : ∃ y_ : Bool × ow_I, y_ = M_lacksBarrel m b I := ⟨_, rfl⟩
  replace hk := lt_k (P := fun r : Int32 × ow_I => K (some (.int ((r).1))) (S, (r).2, V, z)) hr1 hk
  refine or_nmZ hr1 ?_
  refine or_if_neZ 32 E dX11_setReserve_5 rfl (fun q5 => ?_) (fun q5 => ?_)
  · replace hk := ite_p (P := fun r : Int32 × ow_I => K (some (.int ((r).1))) (S, (r).2, V, z)) q5 hk
    refine or_iconst (v := nI 0) E rfl dX11_setReserve_32 ?_
    try dsimp only at hk
    exact or_iret E F dX11_setReserve_33 (Nat.le_refl _) (Nat.le_refl _) hk
  · replace hk := ite_n (P := fun r : Int32 × ow_I => K (some (.int ((r).1))) (S, (r).2, V, z)) (bz_neg q5) hk
    refine or_aload_n E rfl dX11_setReserve_8 ?_
    refine or_iload_n E rfl dX11_setReserve_9 ?_
    refine or_iconst (v := nI 1) E rfl dX11_setReserve_10 ?_
    refine or_sipush (v := nI 999) E rfl dX11_setReserve_11 ?_
    refine or_cS3r (cM_in   ) E lk_11_173 dX11_setReserve_14 (by decide) (by decide) ⟨Nat.le_refl _, Nat.le_refl _⟩ (Nat.le_of_ble_eq_true rfl) ?_
    refine or_if_neZ 24 E dX11_setReserve_17 rfl (fun q17 => ?_) (fun q17 => ?_)
    · replace hk := ite_p (P := fun r : Int32 × ow_I => K (some (.int ((r).1))) (S, (r).2, V, z)) q17 hk
      refine or_iconst (v := nI 0) E rfl dX11_setReserve_24 ?_
      refine or_iconst (v := nI 2) E rfl dX11_setReserve_25 ?_
      refine or_cV2r (cM_thrF h_m) E lk_11_166 dX11_setReserve_26 h_m.1 rfl rfl (by decide) (by decide) ⟨Nat.le_refl _, Nat.le_refl _⟩ (Nat.le_of_ble_eq_true rfl) ?_
      refine or_if_eqZ 34 E dX11_setReserve_29 rfl (fun q29 => ?_) (fun q29 => absurd q29 (by decide))
      refine or_aload_n E rfl dX11_setReserve_34 ?_
      refine or_aload_n E rfl dX11_setReserve_35 ?_
      refine or_iload_n E rfl dX11_setReserve_36 ?_
      refine or_top (nI_tn (by subst hr1; exact (lB_1 hv q5).1)).symm ?_
      refine or_cV1r (cM_isWaiting  h_m (by subst hr1; have h := (lB_1 hv q5).2; have := hv.2.2.1; omega)) E lk_11_156 dX11_setReserve_37 h_m.1 rfl rfl (by decide) (by decide) ⟨Nat.le_refl _, Nat.le_refl _⟩ (Nat.le_of_ble_eq_true rfl) ?_
      refine or_if_neZ 47 E dX11_setReserve_40 rfl (fun q40 => ?_) (fun q40 => ?_)
      · replace hk := ite_p (P := fun r : Int32 × ow_I => K (some (.int ((r).1))) (S, (r).2, V, z)) q40 hk
        refine or_iconst (v := nI 0) E rfl dX11_setReserve_47 ?_
        refine or_iconst (v := nI 3) E rfl dX11_setReserve_48 ?_
        refine or_cV2r (cM_thrF h_m) E lk_11_166 dX11_setReserve_49 h_m.1 rfl rfl (by decide) (by decide) ⟨Nat.le_refl _, Nat.le_refl _⟩ (Nat.le_of_ble_eq_true rfl) ?_
        refine or_if_eqZ 57 E dX11_setReserve_52 rfl (fun q52 => ?_) (fun q52 => absurd q52 (by decide))
        refine or_aload_n E rfl dX11_setReserve_57 ?_
        refine or_iconst (v := nI 0) E rfl dX11_setReserve_58 ?_
        refine or_cV1v (cM_keep  h_m (by decide) (by subst hr1; rw [fr_lB (by decide)]; exact ho) (by subst hr1; rw [fr_lB (by decide)]; exact hob) (by subst hr1; rw [fr_lB (by decide)]; exact hk2) (by subst hr1; rw [fr_lB (by decide)]; exact hkb)) E lk_11_253 dX11_setReserve_59 h_m.1 rfl rfl (by decide) (by decide) ⟨Nat.le_refl _, Nat.le_refl _⟩ (Nat.le_of_ble_eq_true rfl) ?_
        obtain ⟨I2, hI2⟩ : ∃ y_ : ow_I, y_ = M_keep m 0 r1.2 := ⟨_, rfl⟩
        replace hk := lt_k (P := fun r : Int32 × ow_I => K (some (.int ((r).1))) (S, (r).2, V, z)) hI2 hk
        refine or_nmI hI2 ?_
        refine or_aload_n E rfl dX11_setReserve_62 ?_
        refine or_iload_n E rfl dX11_setReserve_63 ?_
        refine or_top (nI_tn (by subst hI2 hr1; exact (lB_1 hv q5).1)).symm ?_
        refine or_bipush (v := nI 10) E rfl dX11_setReserve_64 ?_
        refine or_cV2r (cM_ofBarrel  h_m (by subst hI2 hr1; have h := (lB_1 hv q5).2; have := hv.2.2.1; omega)) E lk_11_66 dX11_setReserve_66 h_m.1 rfl rfl (by decide) (by decide) ⟨Nat.le_refl _, Nat.le_refl _⟩ (Nat.le_of_ble_eq_true rfl) ?_
        refine or_istore_n E dX11_setReserve_69 (by decide) ?_
        refine or_aload_n E rfl dX11_setReserve_70 ?_
        refine or_iload_n E rfl dX11_setReserve_71 ?_
        refine or_top (nI_tn (by subst hI2 hr1; exact (lB_1 hv q5).1)).symm ?_
        refine or_bipush (v := nI 10) E rfl dX11_setReserve_72 ?_
        refine or_iload_n E rfl dX11_setReserve_74 ?_
        refine or_cV3v (cM_putBarrel  h_m (by subst hI2 hr1; have h := (lB_1 hv q5).2; have := hv.2.2.1; omega)) E lk_11_73 dX11_setReserve_75 h_m.1 rfl rfl (by decide) (by decide) ⟨Nat.le_refl _, Nat.le_refl _⟩ (Nat.le_of_ble_eq_true rfl) ?_
        obtain ⟨I3, hI3⟩ : ∃ y_ : ow_I, y_ = M_putBarrel m (tn b) 10 r I2 := ⟨_, rfl⟩
        replace hk := lt_k (P := fun r : Int32 × ow_I => K (some (.int ((r).1))) (S, (r).2, V, z)) hI3 hk
        refine or_nmI hI3 ?_
        refine or_iload_n E rfl dX11_setReserve_78 ?_
        try dsimp only at hk
        exact or_iret E F dX11_setReserve_79 (Nat.le_refl _) (Nat.le_refl _) hk
      · replace hk := ite_n (P := fun r : Int32 × ow_I => K (some (.int ((r).1))) (S, (r).2, V, z)) (bz_neg q40) hk
        refine or_iconst (v := nI 1) E rfl dX11_setReserve_43 ?_
        refine or_goto 48 E dX11_setReserve_44 rfl ?_
        refine or_iconst (v := nI 3) E rfl dX11_setReserve_48 ?_
        refine or_cV2r (cM_thrT h_m) E lk_11_166 dX11_setReserve_49 h_m.1 rfl rfl (by decide) (by decide) ⟨Nat.le_refl _, Nat.le_refl _⟩ (Nat.le_of_ble_eq_true rfl) ?_
        obtain ⟨I4, hI4⟩ : ∃ y_ : ow_I, y_ = ow_u r1.2 m 18 (nI 3) := ⟨_, rfl⟩
        replace hk := lt_k (P := fun r : Int32 × ow_I => K (some (.int ((r).1))) (S, (r).2, V, z)) hI4 hk
        refine or_nmI hI4 ?_
        refine or_if_eqZ 57 E dX11_setReserve_52 rfl (fun q52 => absurd q52 (by decide)) (fun q52 => ?_)
        refine or_iconst (v := nI 0) E rfl dX11_setReserve_55 ?_
        try dsimp only at hk
        exact or_iret E F dX11_setReserve_56 (Nat.le_refl _) (Nat.le_refl _) hk
    · replace hk := ite_n (P := fun r : Int32 × ow_I => K (some (.int ((r).1))) (S, (r).2, V, z)) (bz_neg q17) hk
      refine or_iconst (v := nI 1) E rfl dX11_setReserve_20 ?_
      refine or_goto 25 E dX11_setReserve_21 rfl ?_
      refine or_iconst (v := nI 2) E rfl dX11_setReserve_25 ?_
      refine or_cV2r (cM_thrT h_m) E lk_11_166 dX11_setReserve_26 h_m.1 rfl rfl (by decide) (by decide) ⟨Nat.le_refl _, Nat.le_refl _⟩ (Nat.le_of_ble_eq_true rfl) ?_
      obtain ⟨I5, hI5⟩ : ∃ y_ : ow_I, y_ = ow_u r1.2 m 18 (nI 2) := ⟨_, rfl⟩
      replace hk := lt_k (P := fun r : Int32 × ow_I => K (some (.int ((r).1))) (S, (r).2, V, z)) hI5 hk
      refine or_nmI hI5 ?_
      refine or_if_eqZ 34 E dX11_setReserve_29 rfl (fun q29 => absurd q29 (by decide)) (fun q29 => ?_)
      refine or_iconst (v := nI 0) E rfl dX11_setReserve_32 ?_
      try dsimp only at hk
      exact or_iret E F dX11_setReserve_33 (Nat.le_refl _) (Nat.le_refl _) hk
def M_setStep (m : Nat) (s : Int32) (I : ow_I) : Int32 × ow_I :=
  lt (ow_u I m 18 (nI 0)) (fun (I1 : ow_I) => if M_in s (nI 1) (nI 50) I1 then lt (M_keep m 0 I1) (fun (I2 : ow_I) => lt (ow_u I2 (m + 1) 3 s) (fun (I3 : ow_I) => (I2 (m + 1) 3, I3))) else lt (ow_u I1 m 18 (nI 1)) (fun (I4 : ow_I) => (nI 0, I4)))
set_option maxRecDepth 100000 in
set_option maxHeartbeats 400000 in
theorem cM_setStep {S : Nat → Option ow_Sh} {I : ow_I} {V : Nat → Nat → Value} {z : Nat} {m : Nat} {s : Int32} (h_m : md_S S m) (ho : 0 ≤ I m 1) (hob : tn (I m 1) < 8) (hk2 : 0 ≤ I m 2) (hkb : tn (I m 2) ≤ 8) : ow_Cf yX11_setStep cX11_setStep 3 (some .int) 2 [.ref m, .int s] (S, I, V, z) (some (.int ((M_setStep m s I).1))) (S, (M_setStep m s I).2, V, z) := by
  refine ow_Cf.of rfl (Nat.le_of_ble_eq_true rfl) (fun X K E F hk => ?_)
  have E : ow_E X RX11 cX11_setStep 3 (ow_rm 2 0 0) := E
  refine or_lv [(0, .ref m), (1, .int s)] rfl ?_
  dsimp only [M_setStep] at hk
  refine or_aload_n E rfl dX11_setStep_0 ?_
  refine or_iconst (v := nI 0) E rfl dX11_setStep_1 ?_
  refine ot_putI E fl_11_54 fw_11_18 dX11_setStep_2 h_m.1 rfl ?_
  obtain ⟨I1, hI1⟩ : ∃ y_ : ow_I, y_ = ow_u I m 18 (nI 0) := ⟨_, rfl⟩
  replace hk := lt_k (P := fun r : Int32 × ow_I => K (some (.int ((r).1))) (S, (r).2, V, z)) hI1 hk
  refine or_nmI hI1 ?_
  refine or_aload_n E rfl dX11_setStep_5 ?_
  refine or_iload_n E rfl dX11_setStep_6 ?_
  refine or_iconst (v := nI 1) E rfl dX11_setStep_7 ?_
  refine or_bipush (v := nI 50) E rfl dX11_setStep_8 ?_
  refine or_cS3r (cM_in   ) E lk_11_173 dX11_setStep_10 (by decide) (by decide) ⟨Nat.le_refl _, Nat.le_refl _⟩ (Nat.le_of_ble_eq_true rfl) ?_
  refine or_if_neZ 20 E dX11_setStep_13 rfl (fun q13 => ?_) (fun q13 => ?_)
  · replace hk := ite_p (P := fun r : Int32 × ow_I => K (some (.int ((r).1))) (S, (r).2, V, z)) q13 hk
    refine or_iconst (v := nI 0) E rfl dX11_setStep_20 ?_
    refine or_iconst (v := nI 1) E rfl dX11_setStep_21 ?_
    refine or_cV2r (cM_thrF h_m) E lk_11_166 dX11_setStep_22 h_m.1 rfl rfl (by decide) (by decide) ⟨Nat.le_refl _, Nat.le_refl _⟩ (Nat.le_of_ble_eq_true rfl) ?_
    refine or_if_eqZ 30 E dX11_setStep_25 rfl (fun q25 => ?_) (fun q25 => absurd q25 (by decide))
    refine or_aload_n E rfl dX11_setStep_30 ?_
    refine or_iconst (v := nI 0) E rfl dX11_setStep_31 ?_
    refine or_cV1v (cM_keep  h_m (by decide) (by subst hI1; rw [ow_u_k _ _ _ _ (by decide)]; exact ho) (by subst hI1; rw [ow_u_k _ _ _ _ (by decide)]; exact hob) (by subst hI1; rw [ow_u_k _ _ _ _ (by decide)]; exact hk2) (by subst hI1; rw [ow_u_k _ _ _ _ (by decide)]; exact hkb)) E lk_11_253 dX11_setStep_32 h_m.1 rfl rfl (by decide) (by decide) ⟨Nat.le_refl _, Nat.le_refl _⟩ (Nat.le_of_ble_eq_true rfl) ?_
    obtain ⟨I2, hI2⟩ : ∃ y_ : ow_I, y_ = M_keep m 0 I1 := ⟨_, rfl⟩
    replace hk := lt_k (P := fun r : Int32 × ow_I => K (some (.int ((r).1))) (S, (r).2, V, z)) hI2 hk
    refine or_nmI hI2 ?_
    refine or_aload_n E rfl dX11_setStep_35 ?_
    refine ot_getC E fl_11_7 dX11_setStep_36 h_m.1 rfl ?_
    refine or_iconst (v := nI 3) E rfl dX11_setStep_39 ?_
    refine ot_iald (j := 3) E dX11_setStep_40 h_m.2.1 rfl rfl (by omega) (Nat.le_of_ble_eq_true rfl) ?_
    refine or_istore_n E dX11_setStep_41 (by decide) ?_
    refine or_aload_n E rfl dX11_setStep_42 ?_
    refine ot_getC E fl_11_7 dX11_setStep_43 h_m.1 rfl ?_
    refine or_iconst (v := nI 3) E rfl dX11_setStep_46 ?_
    refine or_iload_n E rfl dX11_setStep_47 ?_
    refine ot_iast (j := 3) E dX11_setStep_48 h_m.2.1 rfl rfl (by omega) (Nat.le_of_ble_eq_true rfl) ?_
    obtain ⟨I3, hI3⟩ : ∃ y_ : ow_I, y_ = ow_u I2 (m + 1) 3 s := ⟨_, rfl⟩
    replace hk := lt_k (P := fun r : Int32 × ow_I => K (some (.int ((r).1))) (S, (r).2, V, z)) hI3 hk
    refine or_nmI hI3 ?_
    refine or_iload_n E rfl dX11_setStep_49 ?_
    try dsimp only at hk
    exact or_iret E F dX11_setStep_50 (Nat.le_refl _) (Nat.le_refl _) hk
  · replace hk := ite_n (P := fun r : Int32 × ow_I => K (some (.int ((r).1))) (S, (r).2, V, z)) (bz_neg q13) hk
    refine or_iconst (v := nI 1) E rfl dX11_setStep_16 ?_
    refine or_goto 21 E dX11_setStep_17 rfl ?_
    refine or_iconst (v := nI 1) E rfl dX11_setStep_21 ?_
    refine or_cV2r (cM_thrT h_m) E lk_11_166 dX11_setStep_22 h_m.1 rfl rfl (by decide) (by decide) ⟨Nat.le_refl _, Nat.le_refl _⟩ (Nat.le_of_ble_eq_true rfl) ?_
    obtain ⟨I4, hI4⟩ : ∃ y_ : ow_I, y_ = ow_u I1 m 18 (nI 1) := ⟨_, rfl⟩
    replace hk := lt_k (P := fun r : Int32 × ow_I => K (some (.int ((r).1))) (S, (r).2, V, z)) hI4 hk
    refine or_nmI hI4 ?_
    refine or_if_eqZ 30 E dX11_setStep_25 rfl (fun q25 => absurd q25 (by decide)) (fun q25 => ?_)
    refine or_iconst (v := nI 0) E rfl dX11_setStep_28 ?_
    try dsimp only at hk
    exact or_iret E F dX11_setStep_29 (Nat.le_refl _) (Nat.le_refl _) hk
def M_setTaste (m : Nat) (b : Int32) (s : Int32) (f : Int32) (I : ow_I) : Int32 × ow_I :=
  lt (M_lacksBuyer m b I) (fun (r1 : Bool × ow_I) => if r1.1 then (nI 0, r1.2) else if M_in s (nI 0) (nI 4) r1.2 then if M_in f (nI 1) (nI 999) r1.2 then lt (M_keep m 0 r1.2) (fun (I3 : ow_I) => lt (M_put m (tn b) 1 s I3) (fun (I4 : ow_I) => lt (M_put m (tn b) 2 f I4) (fun (I5 : ow_I) => (M_of m (tn b) 1 I3, I5)))) else lt (ow_u r1.2 m 18 (nI 2)) (fun (I6 : ow_I) => (nI 0, I6)) else lt (ow_u r1.2 m 18 (nI 2)) (fun (I2 : ow_I) => (nI 0, I2)))
set_option maxRecDepth 100000 in
set_option maxHeartbeats 400000 in
theorem cM_setTaste {S : Nat → Option ow_Sh} {I : ow_I} {V : Nat → Nat → Value} {z : Nat} {m : Nat} {b : Int32} {s : Int32} {f : Int32} (h_m : md_S S m) (hv : md_V (I (m + 1))) (ho : 0 ≤ I m 1) (hob : tn (I m 1) < 8) (hk2 : 0 ≤ I m 2) (hkb : tn (I m 2) ≤ 8) : ow_Cf yX11_setTaste cX11_setTaste 5 (some .int) 2 [.ref m, .int b, .int s, .int f] (S, I, V, z) (some (.int ((M_setTaste m b s f I).1))) (S, (M_setTaste m b s f I).2, V, z) := by
  refine ow_Cf.of rfl (Nat.le_of_ble_eq_true rfl) (fun X K E F hk => ?_)
  have E : ow_E X RX11 cX11_setTaste 5 (ow_rm 2 0 0) := E
  refine or_lv [(0, .ref m), (1, .int b), (2, .int s), (3, .int f)] rfl ?_
  dsimp only [M_setTaste] at hk
  refine or_aload_n E rfl dX11_setTaste_0 ?_
  refine or_iload_n E rfl dX11_setTaste_1 ?_
  refine or_cV1r (cM_lacksBuyer  h_m ) E lk_11_305 dX11_setTaste_2 h_m.1 rfl rfl (by decide) (by decide) ⟨Nat.le_refl _, Nat.le_refl _⟩ (Nat.le_of_ble_eq_true rfl) ?_
  obtain ⟨r1, hr1⟩ : ∃ y_ : Bool × ow_I, y_ = M_lacksBuyer m b I := ⟨_, rfl⟩
  replace hk := lt_k (P := fun r : Int32 × ow_I => K (some (.int ((r).1))) (S, (r).2, V, z)) hr1 hk
  refine or_nmZ hr1 ?_
  refine or_if_neZ 41 E dX11_setTaste_5 rfl (fun q5 => ?_) (fun q5 => ?_)
  · replace hk := ite_p (P := fun r : Int32 × ow_I => K (some (.int ((r).1))) (S, (r).2, V, z)) q5 hk
    refine or_iconst (v := nI 0) E rfl dX11_setTaste_41 ?_
    try dsimp only at hk
    exact or_iret E F dX11_setTaste_42 (Nat.le_refl _) (Nat.le_refl _) hk
  · replace hk := ite_n (P := fun r : Int32 × ow_I => K (some (.int ((r).1))) (S, (r).2, V, z)) (bz_neg q5) hk
    refine or_aload_n E rfl dX11_setTaste_8 ?_
    refine or_iload_n E rfl dX11_setTaste_9 ?_
    refine or_iconst (v := nI 0) E rfl dX11_setTaste_10 ?_
    refine or_iconst (v := nI 4) E rfl dX11_setTaste_11 ?_
    refine or_cS3r (cM_in   ) E lk_11_173 dX11_setTaste_12 (by decide) (by decide) ⟨Nat.le_refl _, Nat.le_refl _⟩ (Nat.le_of_ble_eq_true rfl) ?_
    refine or_if_eqZ 29 E dX11_setTaste_15 rfl (fun q15 => ?_) (fun q15 => ?_)
    · replace hk := ite_n (P := fun r : Int32 × ow_I => K (some (.int ((r).1))) (S, (r).2, V, z)) (bz_neg q15) hk
      refine or_iconst (v := nI 1) E rfl dX11_setTaste_29 ?_
      refine or_goto 34 E dX11_setTaste_30 rfl ?_
      refine or_iconst (v := nI 2) E rfl dX11_setTaste_34 ?_
      refine or_cV2r (cM_thrT h_m) E lk_11_166 dX11_setTaste_35 h_m.1 rfl rfl (by decide) (by decide) ⟨Nat.le_refl _, Nat.le_refl _⟩ (Nat.le_of_ble_eq_true rfl) ?_
      obtain ⟨I2, hI2⟩ : ∃ y_ : ow_I, y_ = ow_u r1.2 m 18 (nI 2) := ⟨_, rfl⟩
      replace hk := lt_k (P := fun r : Int32 × ow_I => K (some (.int ((r).1))) (S, (r).2, V, z)) hI2 hk
      refine or_nmI hI2 ?_
      refine or_if_eqZ 43 E dX11_setTaste_38 rfl (fun q38 => absurd q38 (by decide)) (fun q38 => ?_)
      refine or_iconst (v := nI 0) E rfl dX11_setTaste_41 ?_
      try dsimp only at hk
      exact or_iret E F dX11_setTaste_42 (Nat.le_refl _) (Nat.le_refl _) hk
    · replace hk := ite_p (P := fun r : Int32 × ow_I => K (some (.int ((r).1))) (S, (r).2, V, z)) q15 hk
      refine or_iload_n E rfl dX11_setTaste_18 ?_
      refine or_iconst (v := nI 1) E rfl dX11_setTaste_19 ?_
      refine or_sipush (v := nI 999) E rfl dX11_setTaste_20 ?_
      refine or_cS3r (cM_in   ) E lk_11_173 dX11_setTaste_23 (by decide) (by decide) ⟨Nat.le_refl _, Nat.le_refl _⟩ (Nat.le_of_ble_eq_true rfl) ?_
      refine or_if_neZ 33 E dX11_setTaste_26 rfl (fun q26 => ?_) (fun q26 => ?_)
      · replace hk := ite_p (P := fun r : Int32 × ow_I => K (some (.int ((r).1))) (S, (r).2, V, z)) q26 hk
        refine or_iconst (v := nI 0) E rfl dX11_setTaste_33 ?_
        refine or_iconst (v := nI 2) E rfl dX11_setTaste_34 ?_
        refine or_cV2r (cM_thrF h_m) E lk_11_166 dX11_setTaste_35 h_m.1 rfl rfl (by decide) (by decide) ⟨Nat.le_refl _, Nat.le_refl _⟩ (Nat.le_of_ble_eq_true rfl) ?_
        refine or_if_eqZ 43 E dX11_setTaste_38 rfl (fun q38 => ?_) (fun q38 => absurd q38 (by decide))
        refine or_aload_n E rfl dX11_setTaste_43 ?_
        refine or_iconst (v := nI 0) E rfl dX11_setTaste_44 ?_
        refine or_cV1v (cM_keep  h_m (by decide) (by subst hr1; rw [fr_lb (by decide)]; exact ho) (by subst hr1; rw [fr_lb (by decide)]; exact hob) (by subst hr1; rw [fr_lb (by decide)]; exact hk2) (by subst hr1; rw [fr_lb (by decide)]; exact hkb)) E lk_11_253 dX11_setTaste_45 h_m.1 rfl rfl (by decide) (by decide) ⟨Nat.le_refl _, Nat.le_refl _⟩ (Nat.le_of_ble_eq_true rfl) ?_
        obtain ⟨I3, hI3⟩ : ∃ y_ : ow_I, y_ = M_keep m 0 r1.2 := ⟨_, rfl⟩
        replace hk := lt_k (P := fun r : Int32 × ow_I => K (some (.int ((r).1))) (S, (r).2, V, z)) hI3 hk
        refine or_nmI hI3 ?_
        refine or_aload_n E rfl dX11_setTaste_48 ?_
        refine or_iload_n E rfl dX11_setTaste_49 ?_
        refine or_top (nI_tn (by subst hI3 hr1; exact (lb_1 hv q5).1)).symm ?_
        refine or_iconst (v := nI 1) E rfl dX11_setTaste_50 ?_
        refine or_cV2r (cM_of  h_m (by subst hI3 hr1; have h := (lb_1 hv q5).2; have := hv.2.1; omega)) E lk_11_86 dX11_setTaste_51 h_m.1 rfl rfl (by decide) (by decide) ⟨Nat.le_refl _, Nat.le_refl _⟩ (Nat.le_of_ble_eq_true rfl) ?_
        refine or_istore E dX11_setTaste_54 (by decide) ?_
        refine or_aload_n E rfl dX11_setTaste_56 ?_
        refine or_iload_n E rfl dX11_setTaste_57 ?_
        refine or_top (nI_tn (by subst hI3 hr1; exact (lb_1 hv q5).1)).symm ?_
        refine or_iconst (v := nI 1) E rfl dX11_setTaste_58 ?_
        refine or_iload_n E rfl dX11_setTaste_59 ?_
        refine or_cV3v (cM_put  h_m (by subst hI3 hr1; have h := (lb_1 hv q5).2; have := hv.2.1; omega)) E lk_11_70 dX11_setTaste_60 h_m.1 rfl rfl (by decide) (by decide) ⟨Nat.le_refl _, Nat.le_refl _⟩ (Nat.le_of_ble_eq_true rfl) ?_
        obtain ⟨I4, hI4⟩ : ∃ y_ : ow_I, y_ = M_put m (tn b) 1 s I3 := ⟨_, rfl⟩
        replace hk := lt_k (P := fun r : Int32 × ow_I => K (some (.int ((r).1))) (S, (r).2, V, z)) hI4 hk
        refine or_nmI hI4 ?_
        refine or_aload_n E rfl dX11_setTaste_63 ?_
        refine or_iload_n E rfl dX11_setTaste_64 ?_
        refine or_top (nI_tn (by subst hI4 hI3 hr1; exact (lb_1 hv q5).1)).symm ?_
        refine or_iconst (v := nI 2) E rfl dX11_setTaste_65 ?_
        refine or_iload_n E rfl dX11_setTaste_66 ?_
        refine or_cV3v (cM_put  h_m (by subst hI4 hI3 hr1; have h := (lb_1 hv q5).2; have := hv.2.1; omega)) E lk_11_70 dX11_setTaste_67 h_m.1 rfl rfl (by decide) (by decide) ⟨Nat.le_refl _, Nat.le_refl _⟩ (Nat.le_of_ble_eq_true rfl) ?_
        obtain ⟨I5, hI5⟩ : ∃ y_ : ow_I, y_ = M_put m (tn b) 2 f I4 := ⟨_, rfl⟩
        replace hk := lt_k (P := fun r : Int32 × ow_I => K (some (.int ((r).1))) (S, (r).2, V, z)) hI5 hk
        refine or_nmI hI5 ?_
        refine or_iload E rfl dX11_setTaste_70 ?_
        try dsimp only at hk
        exact or_iret E F dX11_setTaste_72 (Nat.le_refl _) (Nat.le_refl _) hk
      · replace hk := ite_n (P := fun r : Int32 × ow_I => K (some (.int ((r).1))) (S, (r).2, V, z)) (bz_neg q26) hk
        refine or_iconst (v := nI 1) E rfl dX11_setTaste_29 ?_
        refine or_goto 34 E dX11_setTaste_30 rfl ?_
        refine or_iconst (v := nI 2) E rfl dX11_setTaste_34 ?_
        refine or_cV2r (cM_thrT h_m) E lk_11_166 dX11_setTaste_35 h_m.1 rfl rfl (by decide) (by decide) ⟨Nat.le_refl _, Nat.le_refl _⟩ (Nat.le_of_ble_eq_true rfl) ?_
        obtain ⟨I6, hI6⟩ : ∃ y_ : ow_I, y_ = ow_u r1.2 m 18 (nI 2) := ⟨_, rfl⟩
        replace hk := lt_k (P := fun r : Int32 × ow_I => K (some (.int ((r).1))) (S, (r).2, V, z)) hI6 hk
        refine or_nmI hI6 ?_
        refine or_if_eqZ 43 E dX11_setTaste_38 rfl (fun q38 => absurd q38 (by decide)) (fun q38 => ?_)
        refine or_iconst (v := nI 0) E rfl dX11_setTaste_41 ?_
        try dsimp only at hk
        exact or_iret E F dX11_setTaste_42 (Nat.le_refl _) (Nat.le_refl _) hk
def M_undo (m : Nat) (I : ow_I) : Int32 × ow_I :=
  lt (ow_u I m 18 (nI 0)) (fun (I1 : ow_I) => if tn (I m 2) = 0 then lt (ow_u I1 m 18 (nI 1)) (fun (I4 : ow_I) => (nI 0, I4)) else lt (ow_u I1 m 2 (nI ((tn (I m 2)) - 1))) (fun (I2 : ow_I) => lt (M_copyBlock m (1 + ((tn (I m 1) + (tn (I m 2) - 1)) % 8)) 0 I2) (fun (I3 : ow_I) => (I3 m 2, I3))))
set_option maxRecDepth 100000 in
set_option maxHeartbeats 400000 in
theorem cM_undo {S : Nat → Option ow_Sh} {I : ow_I} {V : Nat → Nat → Value} {z : Nat} {m : Nat} (h_m : md_S S m) (ho : 0 ≤ I m 1) (hob : tn (I m 1) < 8) (hk2 : 0 ≤ I m 2) (hkb : tn (I m 2) ≤ 8) : ow_Cf yX11_undo cX11_undo 1 (some .int) 1 [.ref m] (S, I, V, z) (some (.int ((M_undo m I).1))) (S, (M_undo m I).2, V, z) := by
  refine ow_Cf.of rfl (Nat.le_of_ble_eq_true rfl) (fun X K E F hk => ?_)
  have E : ow_E X RX11 cX11_undo 1 (ow_rm 1 0 0) := E
  refine or_lv [(0, .ref m)] rfl ?_
  dsimp only [M_undo] at hk
  refine or_aload_n E rfl dX11_undo_0 ?_
  refine or_iconst (v := nI 0) E rfl dX11_undo_1 ?_
  refine ot_putI E fl_11_54 fw_11_18 dX11_undo_2 h_m.1 rfl ?_
  obtain ⟨I1, hI1⟩ : ∃ y_ : ow_I, y_ = ow_u I m 18 (nI 0) := ⟨_, rfl⟩
  replace hk := lt_k (P := fun r : Int32 × ow_I => K (some (.int ((r).1))) (S, (r).2, V, z)) hI1 hk
  refine or_nmI hI1 ?_
  refine or_aload_n E rfl dX11_undo_5 ?_
  refine or_aload_n E rfl dX11_undo_6 ?_
  refine ot_getI E fl_11_57 dX11_undo_7 h_m.1 rfl ?_
  refine or_top (y := nI (tn (I m 2))) (by subst hI1; rw [ow_u_k _ _ _ _ (by decide), nI_tn hk2]) ?_
  refine or_if_neN 17 E dX11_undo_10 rfl (by omega) (fun q10 => ?_) (fun q10 => ?_)
  · replace hk := ite_n (P := fun r : Int32 × ow_I => K (some (.int ((r).1))) (S, (r).2, V, z)) q10 hk
    refine or_iconst (v := nI 0) E rfl dX11_undo_17 ?_
    refine or_iconst (v := nI 1) E rfl dX11_undo_18 ?_
    refine or_cV2r (cM_thrF h_m) E lk_11_166 dX11_undo_19 h_m.1 rfl rfl (by decide) (by decide) ⟨Nat.le_refl _, Nat.le_refl _⟩ (Nat.le_of_ble_eq_true rfl) ?_
    refine or_if_eqZ 27 E dX11_undo_22 rfl (fun q22 => ?_) (fun q22 => absurd q22 (by decide))
    refine or_aload_n E rfl dX11_undo_27 ?_
    refine or_dup E rfl dX11_undo_28 ?_
    refine ot_getI E fl_11_57 dX11_undo_29 h_m.1 rfl ?_
    refine or_top (y := nI (tn (I m 2))) (by subst hI1; rw [ow_u_k _ _ _ _ (by decide), nI_tn hk2]) ?_
    refine or_iconst (v := nI 1) E rfl dX11_undo_32 ?_
    refine or_isubN E dX11_undo_33 (by subst hI1; omega) ?_
    refine ot_putI E fl_11_57 fw_11_2 dX11_undo_34 h_m.1 rfl ?_
    obtain ⟨I2, hI2⟩ : ∃ y_ : ow_I, y_ = ow_u I1 m 2 (nI ((tn (I m 2)) - 1)) := ⟨_, rfl⟩
    replace hk := lt_k (P := fun r : Int32 × ow_I => K (some (.int ((r).1))) (S, (r).2, V, z)) hI2 hk
    refine or_nmI hI2 ?_
    refine or_aload_n E rfl dX11_undo_37 ?_
    refine or_iconst (v := nI 1) E rfl dX11_undo_38 ?_
    refine or_aload_n E rfl dX11_undo_39 ?_
    refine ot_getI E fl_11_60 dX11_undo_40 h_m.1 rfl ?_
    refine or_top (y := nI (tn (I m 1))) (by subst hI2 hI1; rw [ow_u_k _ _ _ _ (by decide), ow_u_k _ _ _ _ (by decide), nI_tn ho]) ?_
    refine or_aload_n E rfl dX11_undo_43 ?_
    refine ot_getI E fl_11_57 dX11_undo_44 h_m.1 rfl ?_
    refine or_top (y := nI (tn (I m 2) - 1)) (by subst hI2 hI1; rw [ow_u_s]) ?_
    refine or_iaddN E dX11_undo_47 ?_
    refine or_bipush (v := nI 8) E rfl dX11_undo_48 ?_
    refine or_iremN E dX11_undo_50 (by omega) (by omega) (by omega) ?_
    refine or_iaddN E dX11_undo_51 ?_
    refine or_iconst (v := nI 0) E rfl dX11_undo_52 ?_
    refine or_cV2v (cM_copyBlock  h_m (by omega) (by decide)) E lk_11_63 dX11_undo_53 h_m.1 rfl rfl (by decide) (by decide) ⟨Nat.le_refl _, Nat.le_refl _⟩ (Nat.le_of_ble_eq_true rfl) ?_
    obtain ⟨I3, hI3⟩ : ∃ y_ : ow_I, y_ = M_copyBlock m (1 + ((tn (I m 1) + (tn (I m 2) - 1)) % 8)) 0 I2 := ⟨_, rfl⟩
    replace hk := lt_k (P := fun r : Int32 × ow_I => K (some (.int ((r).1))) (S, (r).2, V, z)) hI3 hk
    refine or_nmI hI3 ?_
    refine or_aload_n E rfl dX11_undo_56 ?_
    refine ot_getI E fl_11_57 dX11_undo_57 h_m.1 rfl ?_
    try dsimp only at hk
    exact or_iret E F dX11_undo_60 (Nat.le_refl _) (Nat.le_refl _) hk
  · replace hk := ite_p (P := fun r : Int32 × ow_I => K (some (.int ((r).1))) (S, (r).2, V, z)) q10 hk
    refine or_iconst (v := nI 1) E rfl dX11_undo_13 ?_
    refine or_goto 18 E dX11_undo_14 rfl ?_
    refine or_iconst (v := nI 1) E rfl dX11_undo_18 ?_
    refine or_cV2r (cM_thrT h_m) E lk_11_166 dX11_undo_19 h_m.1 rfl rfl (by decide) (by decide) ⟨Nat.le_refl _, Nat.le_refl _⟩ (Nat.le_of_ble_eq_true rfl) ?_
    obtain ⟨I4, hI4⟩ : ∃ y_ : ow_I, y_ = ow_u I1 m 18 (nI 1) := ⟨_, rfl⟩
    replace hk := lt_k (P := fun r : Int32 × ow_I => K (some (.int ((r).1))) (S, (r).2, V, z)) hI4 hk
    refine or_nmI hI4 ?_
    refine or_if_eqZ 27 E dX11_undo_22 rfl (fun q22 => absurd q22 (by decide)) (fun q22 => ?_)
    refine or_iconst (v := nI 0) E rfl dX11_undo_25 ?_
    try dsimp only at hk
    exact or_iret E F dX11_undo_26 (Nat.le_refl _) (Nat.le_refl _) hk
def M_saveSnapshot (m : Nat) (s : Int32) (I : ow_I) : ow_I :=
  lt (ow_u I m 18 (nI 0)) (fun (I1 : ow_I) => if M_in s (nI 0) (nI 1) I1 then lt (M_copyBlock m 0 (9 + (tn s)) I1) (fun (I2 : ow_I) => lt (ow_u I2 (m + 2) (tn s) (((nI 1) &&& 1))) (fun (I3 : ow_I) => I3)) else lt (ow_u I1 m 18 (nI 1)) (fun (I4 : ow_I) => I4))
set_option maxRecDepth 100000 in
set_option maxHeartbeats 400000 in
theorem cM_saveSnapshot {S : Nat → Option ow_Sh} {I : ow_I} {V : Nat → Nat → Value} {z : Nat} {m : Nat} {s : Int32} (h_m : md_S S m)  : ow_Cf yX11_saveSnapshot cX11_saveSnapshot 2 none 1 [.ref m, .int s] (S, I, V, z) none (S, M_saveSnapshot m s I, V, z) := by
  refine ow_Cf.of rfl (Nat.le_of_ble_eq_true rfl) (fun X K E F hk => ?_)
  have E : ow_E X RX11 cX11_saveSnapshot 2 (ow_rm 1 0 0) := E
  refine or_lv [(0, .ref m), (1, .int s)] rfl ?_
  dsimp only [M_saveSnapshot] at hk
  refine or_aload_n E rfl dX11_saveSnapshot_0 ?_
  refine or_iconst (v := nI 0) E rfl dX11_saveSnapshot_1 ?_
  refine ot_putI E fl_11_54 fw_11_18 dX11_saveSnapshot_2 h_m.1 rfl ?_
  obtain ⟨I1, hI1⟩ : ∃ y_ : ow_I, y_ = ow_u I m 18 (nI 0) := ⟨_, rfl⟩
  replace hk := lt_k (P := fun r : ow_I => K none (S, r, V, z)) hI1 hk
  refine or_nmI hI1 ?_
  refine or_aload_n E rfl dX11_saveSnapshot_5 ?_
  refine or_iload_n E rfl dX11_saveSnapshot_6 ?_
  refine or_iconst (v := nI 0) E rfl dX11_saveSnapshot_7 ?_
  refine or_iconst (v := nI 1) E rfl dX11_saveSnapshot_8 ?_
  refine or_cS3r (cM_in   ) E lk_11_173 dX11_saveSnapshot_9 (by decide) (by decide) ⟨Nat.le_refl _, Nat.le_refl _⟩ (Nat.le_of_ble_eq_true rfl) ?_
  refine or_if_neZ 19 E dX11_saveSnapshot_12 rfl (fun q12 => ?_) (fun q12 => ?_)
  · replace hk := ite_p (P := fun r : ow_I => K none (S, r, V, z)) q12 hk
    refine or_iconst (v := nI 0) E rfl dX11_saveSnapshot_19 ?_
    refine or_iconst (v := nI 1) E rfl dX11_saveSnapshot_20 ?_
    refine or_cV2r (cM_thrF h_m) E lk_11_166 dX11_saveSnapshot_21 h_m.1 rfl rfl (by decide) (by decide) ⟨Nat.le_refl _, Nat.le_refl _⟩ (Nat.le_of_ble_eq_true rfl) ?_
    refine or_if_eqZ 28 E dX11_saveSnapshot_24 rfl (fun q24 => ?_) (fun q24 => absurd q24 (by decide))
    refine or_aload_n E rfl dX11_saveSnapshot_28 ?_
    refine or_iconst (v := nI 0) E rfl dX11_saveSnapshot_29 ?_
    refine or_bipush (v := nI 9) E rfl dX11_saveSnapshot_30 ?_
    refine or_iload_n E rfl dX11_saveSnapshot_32 ?_
    refine or_top (nI_tn (by subst hI1; exact (i32_le (a := 0) (b := 1) (by decide) (by decide) (in_rng q12).1 (in_rng q12).2).1)).symm ?_
    refine or_iaddN E dX11_saveSnapshot_33 ?_
    refine or_cV2v (cM_copyBlock  h_m (by decide) (by subst hI1; have := (i32_le (a := 0) (b := 1) (by decide) (by decide) (in_rng q12).1 (in_rng q12).2).2.2; omega)) E lk_11_63 dX11_saveSnapshot_34 h_m.1 rfl rfl (by decide) (by decide) ⟨Nat.le_refl _, Nat.le_refl _⟩ (Nat.le_of_ble_eq_true rfl) ?_
    obtain ⟨I2, hI2⟩ : ∃ y_ : ow_I, y_ = M_copyBlock m 0 (9 + (tn s)) I1 := ⟨_, rfl⟩
    replace hk := lt_k (P := fun r : ow_I => K none (S, r, V, z)) hI2 hk
    refine or_nmI hI2 ?_
    refine or_aload_n E rfl dX11_saveSnapshot_37 ?_
    refine ot_getC E fl_11_13 dX11_saveSnapshot_38 h_m.1 rfl ?_
    refine or_iload_n E rfl dX11_saveSnapshot_41 ?_
    refine or_top (nI_tn (by subst hI2 hI1; exact (i32_le (a := 0) (b := 1) (by decide) (by decide) (in_rng q12).1 (in_rng q12).2).1)).symm ?_
    refine or_iconst (v := nI 1) E rfl dX11_saveSnapshot_42 ?_
    refine ot_zast (j := tn s) E dX11_saveSnapshot_43 h_m.2.2.1 rfl rfl (by subst hI2 hI1; have := (i32_le (a := 0) (b := 1) (by decide) (by decide) (in_rng q12).1 (in_rng q12).2).2.2; omega) (Nat.le_of_ble_eq_true rfl) ?_
    obtain ⟨I3, hI3⟩ : ∃ y_ : ow_I, y_ = ow_u I2 (m + 2) (tn s) (((nI 1) &&& 1)) := ⟨_, rfl⟩
    replace hk := lt_k (P := fun r : ow_I => K none (S, r, V, z)) hI3 hk
    refine or_nmI hI3 ?_
    exact or_vret E F dX11_saveSnapshot_44 (Nat.le_refl _) (Nat.le_refl _) hk
  · replace hk := ite_n (P := fun r : ow_I => K none (S, r, V, z)) (bz_neg q12) hk
    refine or_iconst (v := nI 1) E rfl dX11_saveSnapshot_15 ?_
    refine or_goto 20 E dX11_saveSnapshot_16 rfl ?_
    refine or_iconst (v := nI 1) E rfl dX11_saveSnapshot_20 ?_
    refine or_cV2r (cM_thrT h_m) E lk_11_166 dX11_saveSnapshot_21 h_m.1 rfl rfl (by decide) (by decide) ⟨Nat.le_refl _, Nat.le_refl _⟩ (Nat.le_of_ble_eq_true rfl) ?_
    obtain ⟨I4, hI4⟩ : ∃ y_ : ow_I, y_ = ow_u I1 m 18 (nI 1) := ⟨_, rfl⟩
    replace hk := lt_k (P := fun r : ow_I => K none (S, r, V, z)) hI4 hk
    refine or_nmI hI4 ?_
    refine or_if_eqZ 28 E dX11_saveSnapshot_24 rfl (fun q24 => absurd q24 (by decide)) (fun q24 => ?_)
    exact or_vret E F dX11_saveSnapshot_27 (Nat.le_refl _) (Nat.le_refl _) hk
def M_restoreSnapshot (m : Nat) (s : Int32) (I : ow_I) : Int32 × ow_I :=
  lt (ow_u I m 18 (nI 0)) (fun (I1 : ow_I) => if M_in s (nI 0) (nI 1) I1 then if I1 (m + 2) (tn s) = 0 then lt (ow_u I1 m 18 (nI 2)) (fun (I4 : ow_I) => (nI 0, I4)) else lt (M_keep m 0 I1) (fun (I2 : ow_I) => lt (M_copyBlock m (9 + (tn s)) 0 I2) (fun (I3 : ow_I) => (I3 (m + 1) 5, I3))) else lt (ow_u I1 m 18 (nI 1)) (fun (I5 : ow_I) => (nI 0, I5)))
set_option maxRecDepth 100000 in
set_option maxHeartbeats 400000 in
theorem cM_restoreSnapshot {S : Nat → Option ow_Sh} {I : ow_I} {V : Nat → Nat → Value} {z : Nat} {m : Nat} {s : Int32} (h_m : md_S S m) (ho : 0 ≤ I m 1) (hob : tn (I m 1) < 8) (hk2 : 0 ≤ I m 2) (hkb : tn (I m 2) ≤ 8) : ow_Cf yX11_restoreSnapshot cX11_restoreSnapshot 2 (some .int) 2 [.ref m, .int s] (S, I, V, z) (some (.int ((M_restoreSnapshot m s I).1))) (S, (M_restoreSnapshot m s I).2, V, z) := by
  refine ow_Cf.of rfl (Nat.le_of_ble_eq_true rfl) (fun X K E F hk => ?_)
  have E : ow_E X RX11 cX11_restoreSnapshot 2 (ow_rm 2 0 0) := E
  refine or_lv [(0, .ref m), (1, .int s)] rfl ?_
  dsimp only [M_restoreSnapshot] at hk
  refine or_aload_n E rfl dX11_restoreSnapshot_0 ?_
  refine or_iconst (v := nI 0) E rfl dX11_restoreSnapshot_1 ?_
  refine ot_putI E fl_11_54 fw_11_18 dX11_restoreSnapshot_2 h_m.1 rfl ?_
  obtain ⟨I1, hI1⟩ : ∃ y_ : ow_I, y_ = ow_u I m 18 (nI 0) := ⟨_, rfl⟩
  replace hk := lt_k (P := fun r : Int32 × ow_I => K (some (.int ((r).1))) (S, (r).2, V, z)) hI1 hk
  refine or_nmI hI1 ?_
  refine or_aload_n E rfl dX11_restoreSnapshot_5 ?_
  refine or_iload_n E rfl dX11_restoreSnapshot_6 ?_
  refine or_iconst (v := nI 0) E rfl dX11_restoreSnapshot_7 ?_
  refine or_iconst (v := nI 1) E rfl dX11_restoreSnapshot_8 ?_
  refine or_cS3r (cM_in   ) E lk_11_173 dX11_restoreSnapshot_9 (by decide) (by decide) ⟨Nat.le_refl _, Nat.le_refl _⟩ (Nat.le_of_ble_eq_true rfl) ?_
  refine or_if_neZ 19 E dX11_restoreSnapshot_12 rfl (fun q12 => ?_) (fun q12 => ?_)
  · replace hk := ite_p (P := fun r : Int32 × ow_I => K (some (.int ((r).1))) (S, (r).2, V, z)) q12 hk
    refine or_iconst (v := nI 0) E rfl dX11_restoreSnapshot_19 ?_
    refine or_iconst (v := nI 1) E rfl dX11_restoreSnapshot_20 ?_
    refine or_cV2r (cM_thrF h_m) E lk_11_166 dX11_restoreSnapshot_21 h_m.1 rfl rfl (by decide) (by decide) ⟨Nat.le_refl _, Nat.le_refl _⟩ (Nat.le_of_ble_eq_true rfl) ?_
    refine or_if_eqZ 29 E dX11_restoreSnapshot_24 rfl (fun q24 => ?_) (fun q24 => absurd q24 (by decide))
    refine or_aload_n E rfl dX11_restoreSnapshot_29 ?_
    refine or_aload_n E rfl dX11_restoreSnapshot_30 ?_
    refine ot_getC E fl_11_13 dX11_restoreSnapshot_31 h_m.1 rfl ?_
    refine or_iload_n E rfl dX11_restoreSnapshot_34 ?_
    refine or_top (nI_tn (by subst hI1; exact (i32_le (a := 0) (b := 1) (by decide) (by decide) (in_rng q12).1 (in_rng q12).2).1)).symm ?_
    refine ot_zald (j := tn s) E dX11_restoreSnapshot_35 h_m.2.2.1 rfl rfl (by subst hI1; have := (i32_le (a := 0) (b := 1) (by decide) (by decide) (in_rng q12).1 (in_rng q12).2).2.2; omega) (Nat.le_of_ble_eq_true rfl) ?_
    refine or_if_ne 43 E dX11_restoreSnapshot_36 rfl (fun q36 => ?_) (fun q36 => ?_)
    · replace hk := ite_n (P := fun r : Int32 × ow_I => K (some (.int ((r).1))) (S, (r).2, V, z)) q36 hk
      refine or_iconst (v := nI 0) E rfl dX11_restoreSnapshot_43 ?_
      refine or_iconst (v := nI 2) E rfl dX11_restoreSnapshot_44 ?_
      refine or_cV2r (cM_thrF h_m) E lk_11_166 dX11_restoreSnapshot_45 h_m.1 rfl rfl (by decide) (by decide) ⟨Nat.le_refl _, Nat.le_refl _⟩ (Nat.le_of_ble_eq_true rfl) ?_
      refine or_if_eqZ 53 E dX11_restoreSnapshot_48 rfl (fun q48 => ?_) (fun q48 => absurd q48 (by decide))
      refine or_aload_n E rfl dX11_restoreSnapshot_53 ?_
      refine or_iconst (v := nI 0) E rfl dX11_restoreSnapshot_54 ?_
      refine or_cV1v (cM_keep  h_m (by decide) (by subst hI1; rw [ow_u_k _ _ _ _ (by decide)]; exact ho) (by subst hI1; rw [ow_u_k _ _ _ _ (by decide)]; exact hob) (by subst hI1; rw [ow_u_k _ _ _ _ (by decide)]; exact hk2) (by subst hI1; rw [ow_u_k _ _ _ _ (by decide)]; exact hkb)) E lk_11_253 dX11_restoreSnapshot_55 h_m.1 rfl rfl (by decide) (by decide) ⟨Nat.le_refl _, Nat.le_refl _⟩ (Nat.le_of_ble_eq_true rfl) ?_
      obtain ⟨I2, hI2⟩ : ∃ y_ : ow_I, y_ = M_keep m 0 I1 := ⟨_, rfl⟩
      replace hk := lt_k (P := fun r : Int32 × ow_I => K (some (.int ((r).1))) (S, (r).2, V, z)) hI2 hk
      refine or_nmI hI2 ?_
      refine or_aload_n E rfl dX11_restoreSnapshot_58 ?_
      refine or_bipush (v := nI 9) E rfl dX11_restoreSnapshot_59 ?_
      refine or_iload_n E rfl dX11_restoreSnapshot_61 ?_
      refine or_top (nI_tn (by subst hI2 hI1; exact (i32_le (a := 0) (b := 1) (by decide) (by decide) (in_rng q12).1 (in_rng q12).2).1)).symm ?_
      refine or_iaddN E dX11_restoreSnapshot_62 ?_
      refine or_iconst (v := nI 0) E rfl dX11_restoreSnapshot_63 ?_
      refine or_cV2v (cM_copyBlock  h_m (by subst hI2 hI1; have := (i32_le (a := 0) (b := 1) (by decide) (by decide) (in_rng q12).1 (in_rng q12).2).2.2; omega) (by decide)) E lk_11_63 dX11_restoreSnapshot_64 h_m.1 rfl rfl (by decide) (by decide) ⟨Nat.le_refl _, Nat.le_refl _⟩ (Nat.le_of_ble_eq_true rfl) ?_
      obtain ⟨I3, hI3⟩ : ∃ y_ : ow_I, y_ = M_copyBlock m (9 + (tn s)) 0 I2 := ⟨_, rfl⟩
      replace hk := lt_k (P := fun r : Int32 × ow_I => K (some (.int ((r).1))) (S, (r).2, V, z)) hI3 hk
      refine or_nmI hI3 ?_
      refine or_aload_n E rfl dX11_restoreSnapshot_67 ?_
      refine ot_getC E fl_11_7 dX11_restoreSnapshot_68 h_m.1 rfl ?_
      refine or_iconst (v := nI 5) E rfl dX11_restoreSnapshot_71 ?_
      refine ot_iald (j := 5) E dX11_restoreSnapshot_72 h_m.2.1 rfl rfl (by omega) (Nat.le_of_ble_eq_true rfl) ?_
      try dsimp only at hk
      exact or_iret E F dX11_restoreSnapshot_73 (Nat.le_refl _) (Nat.le_refl _) hk
    · replace hk := ite_p (P := fun r : Int32 × ow_I => K (some (.int ((r).1))) (S, (r).2, V, z)) q36 hk
      refine or_iconst (v := nI 1) E rfl dX11_restoreSnapshot_39 ?_
      refine or_goto 44 E dX11_restoreSnapshot_40 rfl ?_
      refine or_iconst (v := nI 2) E rfl dX11_restoreSnapshot_44 ?_
      refine or_cV2r (cM_thrT h_m) E lk_11_166 dX11_restoreSnapshot_45 h_m.1 rfl rfl (by decide) (by decide) ⟨Nat.le_refl _, Nat.le_refl _⟩ (Nat.le_of_ble_eq_true rfl) ?_
      obtain ⟨I4, hI4⟩ : ∃ y_ : ow_I, y_ = ow_u I1 m 18 (nI 2) := ⟨_, rfl⟩
      replace hk := lt_k (P := fun r : Int32 × ow_I => K (some (.int ((r).1))) (S, (r).2, V, z)) hI4 hk
      refine or_nmI hI4 ?_
      refine or_if_eqZ 53 E dX11_restoreSnapshot_48 rfl (fun q48 => absurd q48 (by decide)) (fun q48 => ?_)
      refine or_iconst (v := nI 0) E rfl dX11_restoreSnapshot_51 ?_
      try dsimp only at hk
      exact or_iret E F dX11_restoreSnapshot_52 (Nat.le_refl _) (Nat.le_refl _) hk
  · replace hk := ite_n (P := fun r : Int32 × ow_I => K (some (.int ((r).1))) (S, (r).2, V, z)) (bz_neg q12) hk
    refine or_iconst (v := nI 1) E rfl dX11_restoreSnapshot_15 ?_
    refine or_goto 20 E dX11_restoreSnapshot_16 rfl ?_
    refine or_iconst (v := nI 1) E rfl dX11_restoreSnapshot_20 ?_
    refine or_cV2r (cM_thrT h_m) E lk_11_166 dX11_restoreSnapshot_21 h_m.1 rfl rfl (by decide) (by decide) ⟨Nat.le_refl _, Nat.le_refl _⟩ (Nat.le_of_ble_eq_true rfl) ?_
    obtain ⟨I5, hI5⟩ : ∃ y_ : ow_I, y_ = ow_u I1 m 18 (nI 1) := ⟨_, rfl⟩
    replace hk := lt_k (P := fun r : Int32 × ow_I => K (some (.int ((r).1))) (S, (r).2, V, z)) hI5 hk
    refine or_nmI hI5 ?_
    refine or_if_eqZ 29 E dX11_restoreSnapshot_24 rfl (fun q24 => absurd q24 (by decide)) (fun q24 => ?_)
    refine or_iconst (v := nI 0) E rfl dX11_restoreSnapshot_27 ?_
    try dsimp only at hk
    exact or_iret E F dX11_restoreSnapshot_28 (Nat.le_refl _) (Nat.le_refl _) hk
def M_append (m : Nat) (a : Int32) (b : Int32) (c : Int32) (d : Int32) (e : Int32) (I : ow_I) : Int32 × ow_I :=
  lt (ow_u I m 18 (nI 0)) (fun (I1 : ow_I) => if tn (I m 5) + 20 ≤ 500 then lt (M_appendWord m a I1) (fun (I2 : ow_I) => lt (M_appendWord m b I2) (fun (I3 : ow_I) => lt (M_appendWord m c I3) (fun (I4 : ow_I) => lt (M_appendWord m d I4) (fun (I5 : ow_I) => lt (M_appendWord m e I5) (fun (I6 : ow_I) => (I6 m 5, I6)))))) else lt (ow_u I1 m 18 (nI 1)) (fun (I7 : ow_I) => (nI 0, I7)))
set_option maxRecDepth 100000 in
set_option maxHeartbeats 400000 in
theorem cM_append {S : Nat → Option ow_Sh} {I : ow_I} {V : Nat → Nat → Value} {z : Nat} {m : Nat} {a : Int32} {b : Int32} {c : Int32} {d : Int32} {e : Int32} (h_m : md_S S m) (hl : 0 ≤ I m 5) (hlb : tn (I m 5) ≤ 500) : ow_Cf yX11_append cX11_append 6 (some .int) 1 [.ref m, .int a, .int b, .int c, .int d, .int e] (S, I, V, z) (some (.int ((M_append m a b c d e I).1))) (S, (M_append m a b c d e I).2, V, z) := by
  refine ow_Cf.of rfl (Nat.le_of_ble_eq_true rfl) (fun X K E F hk => ?_)
  have E : ow_E X RX11 cX11_append 6 (ow_rm 1 0 0) := E
  refine or_lv [(0, .ref m), (1, .int a), (2, .int b), (3, .int c), (4, .int d), (5, .int e)] rfl ?_
  dsimp only [M_append] at hk
  refine or_aload_n E rfl dX11_append_0 ?_
  refine or_iconst (v := nI 0) E rfl dX11_append_1 ?_
  refine ot_putI E fl_11_54 fw_11_18 dX11_append_2 h_m.1 rfl ?_
  obtain ⟨I1, hI1⟩ : ∃ y_ : ow_I, y_ = ow_u I m 18 (nI 0) := ⟨_, rfl⟩
  replace hk := lt_k (P := fun r : Int32 × ow_I => K (some (.int ((r).1))) (S, (r).2, V, z)) hI1 hk
  refine or_nmI hI1 ?_
  refine or_aload_n E rfl dX11_append_5 ?_
  refine or_aload_n E rfl dX11_append_6 ?_
  refine ot_getI E fl_11_163 dX11_append_7 h_m.1 rfl ?_
  refine or_top (y := nI (tn (I m 5))) (by subst hI1; rw [ow_u_k _ _ _ _ (by decide), nI_tn hl]) ?_
  refine or_bipush (v := nI 20) E rfl dX11_append_10 ?_
  refine or_iaddN E dX11_append_12 ?_
  refine or_sipush (v := nI 500) E rfl dX11_append_13 ?_
  refine or_icmp_leN 23 E dX11_append_16 rfl (by omega) (by omega) (fun q16 => ?_) (fun q16 => ?_)
  · replace hk := ite_p (P := fun r : Int32 × ow_I => K (some (.int ((r).1))) (S, (r).2, V, z)) q16 hk
    refine or_iconst (v := nI 0) E rfl dX11_append_23 ?_
    refine or_iconst (v := nI 1) E rfl dX11_append_24 ?_
    refine or_cV2r (cM_thrF h_m) E lk_11_166 dX11_append_25 h_m.1 rfl rfl (by decide) (by decide) ⟨Nat.le_refl _, Nat.le_refl _⟩ (Nat.le_of_ble_eq_true rfl) ?_
    refine or_if_eqZ 33 E dX11_append_28 rfl (fun q28 => ?_) (fun q28 => absurd q28 (by decide))
    refine or_aload_n E rfl dX11_append_33 ?_
    refine or_iload_n E rfl dX11_append_34 ?_
    refine or_cV1v (cM_appendWord  h_m (by subst hI1; exact (show 0 ≤ ow_u I m 18 (nI 0) m 5 by rw [ow_u_k _ _ _ _ (by decide)]; exact hl)) (by subst hI1; have := (show tn (ow_u I m 18 (nI 0) m 5) ≤ 480 by rw [ow_u_k _ _ _ _ (by decide)]; omega); omega)) E lk_11_170 dX11_append_35 h_m.1 rfl rfl (by decide) (by decide) ⟨Nat.le_refl _, Nat.le_refl _⟩ (Nat.le_of_ble_eq_true rfl) ?_
    obtain ⟨I2, hI2⟩ : ∃ y_ : ow_I, y_ = M_appendWord m a I1 := ⟨_, rfl⟩
    replace hk := lt_k (P := fun r : Int32 × ow_I => K (some (.int ((r).1))) (S, (r).2, V, z)) hI2 hk
    refine or_nmI hI2 ?_
    refine or_aload_n E rfl dX11_append_38 ?_
    refine or_iload_n E rfl dX11_append_39 ?_
    refine or_cV1v (cM_appendWord  h_m (by subst hI2 hI1; exact (aw5 (show 0 ≤ ow_u I m 18 (nI 0) m 5 by rw [ow_u_k _ _ _ _ (by decide)]; exact hl) (show tn (ow_u I m 18 (nI 0) m 5) ≤ 480 by rw [ow_u_k _ _ _ _ (by decide)]; omega)).1) (by subst hI2 hI1; have h := (aw5 (a := a) (show 0 ≤ ow_u I m 18 (nI 0) m 5 by rw [ow_u_k _ _ _ _ (by decide)]; exact hl) (show tn (ow_u I m 18 (nI 0) m 5) ≤ 480 by rw [ow_u_k _ _ _ _ (by decide)]; omega)).2; have := (show tn (ow_u I m 18 (nI 0) m 5) ≤ 480 by rw [ow_u_k _ _ _ _ (by decide)]; omega); omega)) E lk_11_170 dX11_append_40 h_m.1 rfl rfl (by decide) (by decide) ⟨Nat.le_refl _, Nat.le_refl _⟩ (Nat.le_of_ble_eq_true rfl) ?_
    obtain ⟨I3, hI3⟩ : ∃ y_ : ow_I, y_ = M_appendWord m b I2 := ⟨_, rfl⟩
    replace hk := lt_k (P := fun r : Int32 × ow_I => K (some (.int ((r).1))) (S, (r).2, V, z)) hI3 hk
    refine or_nmI hI3 ?_
    refine or_aload_n E rfl dX11_append_43 ?_
    refine or_iload_n E rfl dX11_append_44 ?_
    refine or_cV1v (cM_appendWord  h_m (by subst hI3 hI2 hI1; exact (aw5b (show 0 ≤ ow_u I m 18 (nI 0) m 5 by rw [ow_u_k _ _ _ _ (by decide)]; exact hl) (show tn (ow_u I m 18 (nI 0) m 5) ≤ 480 by rw [ow_u_k _ _ _ _ (by decide)]; omega)).1) (by subst hI3 hI2 hI1; have h := (aw5b (a := a) (b := b) (show 0 ≤ ow_u I m 18 (nI 0) m 5 by rw [ow_u_k _ _ _ _ (by decide)]; exact hl) (show tn (ow_u I m 18 (nI 0) m 5) ≤ 480 by rw [ow_u_k _ _ _ _ (by decide)]; omega)).2; have := (show tn (ow_u I m 18 (nI 0) m 5) ≤ 480 by rw [ow_u_k _ _ _ _ (by decide)]; omega); omega)) E lk_11_170 dX11_append_45 h_m.1 rfl rfl (by decide) (by decide) ⟨Nat.le_refl _, Nat.le_refl _⟩ (Nat.le_of_ble_eq_true rfl) ?_
    obtain ⟨I4, hI4⟩ : ∃ y_ : ow_I, y_ = M_appendWord m c I3 := ⟨_, rfl⟩
    replace hk := lt_k (P := fun r : Int32 × ow_I => K (some (.int ((r).1))) (S, (r).2, V, z)) hI4 hk
    refine or_nmI hI4 ?_
    refine or_aload_n E rfl dX11_append_48 ?_
    refine or_iload E rfl dX11_append_49 ?_
    refine or_cV1v (cM_appendWord  h_m (by subst hI4 hI3 hI2 hI1; exact (aw5c (show 0 ≤ ow_u I m 18 (nI 0) m 5 by rw [ow_u_k _ _ _ _ (by decide)]; exact hl) (show tn (ow_u I m 18 (nI 0) m 5) ≤ 480 by rw [ow_u_k _ _ _ _ (by decide)]; omega)).1) (by subst hI4 hI3 hI2 hI1; have h := (aw5c (a := a) (b := b) (c := c) (show 0 ≤ ow_u I m 18 (nI 0) m 5 by rw [ow_u_k _ _ _ _ (by decide)]; exact hl) (show tn (ow_u I m 18 (nI 0) m 5) ≤ 480 by rw [ow_u_k _ _ _ _ (by decide)]; omega)).2; have := (show tn (ow_u I m 18 (nI 0) m 5) ≤ 480 by rw [ow_u_k _ _ _ _ (by decide)]; omega); omega)) E lk_11_170 dX11_append_51 h_m.1 rfl rfl (by decide) (by decide) ⟨Nat.le_refl _, Nat.le_refl _⟩ (Nat.le_of_ble_eq_true rfl) ?_
    obtain ⟨I5, hI5⟩ : ∃ y_ : ow_I, y_ = M_appendWord m d I4 := ⟨_, rfl⟩
    replace hk := lt_k (P := fun r : Int32 × ow_I => K (some (.int ((r).1))) (S, (r).2, V, z)) hI5 hk
    refine or_nmI hI5 ?_
    refine or_aload_n E rfl dX11_append_54 ?_
    refine or_iload E rfl dX11_append_55 ?_
    refine or_cV1v (cM_appendWord  h_m (by subst hI5 hI4 hI3 hI2 hI1; exact (aw5d (show 0 ≤ ow_u I m 18 (nI 0) m 5 by rw [ow_u_k _ _ _ _ (by decide)]; exact hl) (show tn (ow_u I m 18 (nI 0) m 5) ≤ 480 by rw [ow_u_k _ _ _ _ (by decide)]; omega)).1) (by subst hI5 hI4 hI3 hI2 hI1; have h := (aw5d (a := a) (b := b) (c := c) (d := d) (show 0 ≤ ow_u I m 18 (nI 0) m 5 by rw [ow_u_k _ _ _ _ (by decide)]; exact hl) (show tn (ow_u I m 18 (nI 0) m 5) ≤ 480 by rw [ow_u_k _ _ _ _ (by decide)]; omega)).2; have := (show tn (ow_u I m 18 (nI 0) m 5) ≤ 480 by rw [ow_u_k _ _ _ _ (by decide)]; omega); omega)) E lk_11_170 dX11_append_57 h_m.1 rfl rfl (by decide) (by decide) ⟨Nat.le_refl _, Nat.le_refl _⟩ (Nat.le_of_ble_eq_true rfl) ?_
    obtain ⟨I6, hI6⟩ : ∃ y_ : ow_I, y_ = M_appendWord m e I5 := ⟨_, rfl⟩
    replace hk := lt_k (P := fun r : Int32 × ow_I => K (some (.int ((r).1))) (S, (r).2, V, z)) hI6 hk
    refine or_nmI hI6 ?_
    refine or_aload_n E rfl dX11_append_60 ?_
    refine ot_getI E fl_11_163 dX11_append_61 h_m.1 rfl ?_
    try dsimp only at hk
    exact or_iret E F dX11_append_64 (Nat.le_refl _) (Nat.le_refl _) hk
  · replace hk := ite_n (P := fun r : Int32 × ow_I => K (some (.int ((r).1))) (S, (r).2, V, z)) q16 hk
    refine or_iconst (v := nI 1) E rfl dX11_append_19 ?_
    refine or_goto 24 E dX11_append_20 rfl ?_
    refine or_iconst (v := nI 1) E rfl dX11_append_24 ?_
    refine or_cV2r (cM_thrT h_m) E lk_11_166 dX11_append_25 h_m.1 rfl rfl (by decide) (by decide) ⟨Nat.le_refl _, Nat.le_refl _⟩ (Nat.le_of_ble_eq_true rfl) ?_
    obtain ⟨I7, hI7⟩ : ∃ y_ : ow_I, y_ = ow_u I1 m 18 (nI 1) := ⟨_, rfl⟩
    replace hk := lt_k (P := fun r : Int32 × ow_I => K (some (.int ((r).1))) (S, (r).2, V, z)) hI7 hk
    refine or_nmI hI7 ?_
    refine or_if_eqZ 33 E dX11_append_28 rfl (fun q28 => absurd q28 (by decide)) (fun q28 => ?_)
    refine or_iconst (v := nI 0) E rfl dX11_append_31 ?_
    try dsimp only at hk
    exact or_iret E F dX11_append_32 (Nat.le_refl _) (Nat.le_refl _) hk
def M_truncate (m : Nat) (t : Int32) (I : ow_I) : Int32 × ow_I :=
  lt (ow_u I m 18 (nI 0)) (fun (I1 : ow_I) => if M_in t (nI 0) (I1 m 5) I1 then lt (ow_u I1 m 5 t) (fun (I2 : ow_I) => (I2 m 5, I2)) else lt (ow_u I1 m 18 (nI 1)) (fun (I3 : ow_I) => (nI 0, I3)))
set_option maxRecDepth 100000 in
set_option maxHeartbeats 400000 in
theorem cM_truncate {S : Nat → Option ow_Sh} {I : ow_I} {V : Nat → Nat → Value} {z : Nat} {m : Nat} {t : Int32} (h_m : md_S S m)  : ow_Cf yX11_truncate cX11_truncate 2 (some .int) 1 [.ref m, .int t] (S, I, V, z) (some (.int ((M_truncate m t I).1))) (S, (M_truncate m t I).2, V, z) := by
  refine ow_Cf.of rfl (Nat.le_of_ble_eq_true rfl) (fun X K E F hk => ?_)
  have E : ow_E X RX11 cX11_truncate 2 (ow_rm 1 0 0) := E
  refine or_lv [(0, .ref m), (1, .int t)] rfl ?_
  dsimp only [M_truncate] at hk
  refine or_aload_n E rfl dX11_truncate_0 ?_
  refine or_iconst (v := nI 0) E rfl dX11_truncate_1 ?_
  refine ot_putI E fl_11_54 fw_11_18 dX11_truncate_2 h_m.1 rfl ?_
  obtain ⟨I1, hI1⟩ : ∃ y_ : ow_I, y_ = ow_u I m 18 (nI 0) := ⟨_, rfl⟩
  replace hk := lt_k (P := fun r : Int32 × ow_I => K (some (.int ((r).1))) (S, (r).2, V, z)) hI1 hk
  refine or_nmI hI1 ?_
  refine or_aload_n E rfl dX11_truncate_5 ?_
  refine or_iload_n E rfl dX11_truncate_6 ?_
  refine or_iconst (v := nI 0) E rfl dX11_truncate_7 ?_
  refine or_aload_n E rfl dX11_truncate_8 ?_
  refine ot_getI E fl_11_163 dX11_truncate_9 h_m.1 rfl ?_
  refine or_cS3r (cM_in   ) E lk_11_173 dX11_truncate_12 (by decide) (by decide) ⟨Nat.le_refl _, Nat.le_refl _⟩ (Nat.le_of_ble_eq_true rfl) ?_
  refine or_if_neZ 22 E dX11_truncate_15 rfl (fun q15 => ?_) (fun q15 => ?_)
  · replace hk := ite_p (P := fun r : Int32 × ow_I => K (some (.int ((r).1))) (S, (r).2, V, z)) q15 hk
    refine or_iconst (v := nI 0) E rfl dX11_truncate_22 ?_
    refine or_iconst (v := nI 1) E rfl dX11_truncate_23 ?_
    refine or_cV2r (cM_thrF h_m) E lk_11_166 dX11_truncate_24 h_m.1 rfl rfl (by decide) (by decide) ⟨Nat.le_refl _, Nat.le_refl _⟩ (Nat.le_of_ble_eq_true rfl) ?_
    refine or_if_eqZ 32 E dX11_truncate_27 rfl (fun q27 => ?_) (fun q27 => absurd q27 (by decide))
    refine or_aload_n E rfl dX11_truncate_32 ?_
    refine or_iload_n E rfl dX11_truncate_33 ?_
    refine ot_putI E fl_11_163 fw_11_5 dX11_truncate_34 h_m.1 rfl ?_
    obtain ⟨I2, hI2⟩ : ∃ y_ : ow_I, y_ = ow_u I1 m 5 t := ⟨_, rfl⟩
    replace hk := lt_k (P := fun r : Int32 × ow_I => K (some (.int ((r).1))) (S, (r).2, V, z)) hI2 hk
    refine or_nmI hI2 ?_
    refine or_aload_n E rfl dX11_truncate_37 ?_
    refine ot_getI E fl_11_163 dX11_truncate_38 h_m.1 rfl ?_
    try dsimp only at hk
    exact or_iret E F dX11_truncate_41 (Nat.le_refl _) (Nat.le_refl _) hk
  · replace hk := ite_n (P := fun r : Int32 × ow_I => K (some (.int ((r).1))) (S, (r).2, V, z)) (bz_neg q15) hk
    refine or_iconst (v := nI 1) E rfl dX11_truncate_18 ?_
    refine or_goto 23 E dX11_truncate_19 rfl ?_
    refine or_iconst (v := nI 1) E rfl dX11_truncate_23 ?_
    refine or_cV2r (cM_thrT h_m) E lk_11_166 dX11_truncate_24 h_m.1 rfl rfl (by decide) (by decide) ⟨Nat.le_refl _, Nat.le_refl _⟩ (Nat.le_of_ble_eq_true rfl) ?_
    obtain ⟨I3, hI3⟩ : ∃ y_ : ow_I, y_ = ow_u I1 m 18 (nI 1) := ⟨_, rfl⟩
    replace hk := lt_k (P := fun r : Int32 × ow_I => K (some (.int ((r).1))) (S, (r).2, V, z)) hI3 hk
    refine or_nmI hI3 ?_
    refine or_if_eqZ 32 E dX11_truncate_27 rfl (fun q27 => absurd q27 (by decide)) (fun q27 => ?_)
    refine or_iconst (v := nI 0) E rfl dX11_truncate_30 ?_
    try dsimp only at hk
    exact or_iret E F dX11_truncate_31 (Nat.le_refl _) (Nat.le_refl _) hk
