theorem cM_thrT {S : Nat → Option ow_Sh} {I : ow_I} {V : Nat → Nat → Value} {z : Nat} {m : Nat} {w : Int32} (h_m : md_S S m) : ow_Cf yX11_throwsIf cX11_throwsIf 3 (some .boolean) 0 [.ref m, .int (bi true), .int w] (S, I, V, z) (some (.int (bi true))) (S, ow_u I m 18 w, V, z) := by
  have h := cM_throwsIf (I := I) (V := V) (z := z) (b := true) (w := w) h_m
  simpa only [M_throwsIf, lt_eq, if_true] using h
theorem cM_thrF {S : Nat → Option ow_Sh} {I : ow_I} {V : Nat → Nat → Value} {z : Nat} {m : Nat} {w : Int32} (h_m : md_S S m) : ow_Cf yX11_throwsIf cX11_throwsIf 3 (some .boolean) 0 [.ref m, .int (bi false), .int w] (S, I, V, z) (some (.int (bi false))) (S, I, V, z) := by
  have h := cM_throwsIf (I := I) (V := V) (z := z) (b := false) (w := w) h_m
  simpa only [M_throwsIf, Bool.false_eq_true, if_false] using h
def M_lacksBuyer (m : Nat) (b : Int32) (I : ow_I) : Bool × ow_I :=
  lt (ow_u I m 18 (nI 0)) (fun (I1 : ow_I) => if M_in b (nI 0) (I1 (m + 1) 6 - (nI 1)) I1 then (false, I1) else lt (ow_u I1 m 18 (nI 1)) (fun (I2 : ow_I) => (true, I2)))
set_option maxRecDepth 100000 in
set_option maxHeartbeats 400000 in
theorem cM_lacksBuyer {S : Nat → Option ow_Sh} {I : ow_I} {V : Nat → Nat → Value} {z : Nat} {m : Nat} {b : Int32} (h_m : md_S S m)  : ow_Cf yX11_lacksBuyer cX11_lacksBuyer 2 (some .boolean) 1 [.ref m, .int b] (S, I, V, z) (some (.int (bi ((M_lacksBuyer m b I).1)))) (S, (M_lacksBuyer m b I).2, V, z) := by
  refine ow_Cf.of rfl (Nat.le_of_ble_eq_true rfl) (fun X K E F hk => ?_)
  have E : ow_E X RX11 cX11_lacksBuyer 2 (ow_rm 1 0 0) := E
  refine or_lv [(0, .ref m), (1, .int b)] rfl ?_
  dsimp only [M_lacksBuyer] at hk
  refine or_aload_n E rfl dX11_lacksBuyer_0 ?_
  refine or_iconst (v := nI 0) E rfl dX11_lacksBuyer_1 ?_
  refine ot_putI E fl_11_54 fw_11_18 dX11_lacksBuyer_2 h_m.1 rfl ?_
  obtain ⟨I1, hI1⟩ : ∃ y_ : ow_I, y_ = ow_u I m 18 (nI 0) := ⟨_, rfl⟩
  replace hk := lt_k (P := fun r : Bool × ow_I => K (some (.int (bi ((r).1)))) (S, (r).2, V, z)) hI1 hk
  refine or_nmI hI1 ?_
  refine or_aload_n E rfl dX11_lacksBuyer_5 ?_
  refine or_iload_n E rfl dX11_lacksBuyer_6 ?_
  refine or_iconst (v := nI 0) E rfl dX11_lacksBuyer_7 ?_
  refine or_aload_n E rfl dX11_lacksBuyer_8 ?_
  refine ot_getC E fl_11_7 dX11_lacksBuyer_9 h_m.1 rfl ?_
  refine or_bipush (v := nI 6) E rfl dX11_lacksBuyer_12 ?_
  refine ot_iald (j := 6) E dX11_lacksBuyer_14 h_m.2.1 rfl rfl (by omega) (Nat.le_of_ble_eq_true rfl) ?_
  refine or_iconst (v := nI 1) E rfl dX11_lacksBuyer_15 ?_
  refine or_isub E dX11_lacksBuyer_16 ?_
  refine or_cS3r (cM_in   ) E lk_11_173 dX11_lacksBuyer_17 (by decide) (by decide) ⟨Nat.le_refl _, Nat.le_refl _⟩ (Nat.le_of_ble_eq_true rfl) ?_
  refine or_if_neZ 27 E dX11_lacksBuyer_20 rfl (fun q20 => ?_) (fun q20 => ?_)
  · replace hk := ite_p (P := fun r : Bool × ow_I => K (some (.int (bi ((r).1)))) (S, (r).2, V, z)) q20 hk
    refine or_iconst (v := nI 0) E rfl dX11_lacksBuyer_27 ?_
    refine or_iconst (v := nI 1) E rfl dX11_lacksBuyer_28 ?_
    refine or_cV2r (cM_thrF h_m) E lk_11_166 dX11_lacksBuyer_29 h_m.1 rfl rfl (by decide) (by decide) ⟨Nat.le_refl _, Nat.le_refl _⟩ (Nat.le_of_ble_eq_true rfl) ?_
    try dsimp only at hk
    exact or_zret E F dX11_lacksBuyer_32 (Nat.le_refl _) (Nat.le_refl _) (bi_nar _) hk
  · replace hk := ite_n (P := fun r : Bool × ow_I => K (some (.int (bi ((r).1)))) (S, (r).2, V, z)) (bz_neg q20) hk
    refine or_iconst (v := nI 1) E rfl dX11_lacksBuyer_23 ?_
    refine or_goto 28 E dX11_lacksBuyer_24 rfl ?_
    refine or_iconst (v := nI 1) E rfl dX11_lacksBuyer_28 ?_
    refine or_cV2r (cM_thrT h_m) E lk_11_166 dX11_lacksBuyer_29 h_m.1 rfl rfl (by decide) (by decide) ⟨Nat.le_refl _, Nat.le_refl _⟩ (Nat.le_of_ble_eq_true rfl) ?_
    obtain ⟨I2, hI2⟩ : ∃ y_ : ow_I, y_ = ow_u I1 m 18 (nI 1) := ⟨_, rfl⟩
    replace hk := lt_k (P := fun r : Bool × ow_I => K (some (.int (bi ((r).1)))) (S, (r).2, V, z)) hI2 hk
    refine or_nmI hI2 ?_
    try dsimp only at hk
    exact or_zret E F dX11_lacksBuyer_32 (Nat.le_refl _) (Nat.le_refl _) (bi_nar _) hk
def M_lacksBarrel (m : Nat) (b : Int32) (I : ow_I) : Bool × ow_I :=
  lt (ow_u I m 18 (nI 0)) (fun (I1 : ow_I) => if M_isBarrel m b I1 then (false, I1) else lt (ow_u I1 m 18 (nI 1)) (fun (I2 : ow_I) => (true, I2)))
set_option maxRecDepth 100000 in
set_option maxHeartbeats 400000 in
theorem cM_lacksBarrel {S : Nat → Option ow_Sh} {I : ow_I} {V : Nat → Nat → Value} {z : Nat} {m : Nat} {b : Int32} (h_m : md_S S m)  : ow_Cf yX11_lacksBarrel cX11_lacksBarrel 2 (some .boolean) 1 [.ref m, .int b] (S, I, V, z) (some (.int (bi ((M_lacksBarrel m b I).1)))) (S, (M_lacksBarrel m b I).2, V, z) := by
  refine ow_Cf.of rfl (Nat.le_of_ble_eq_true rfl) (fun X K E F hk => ?_)
  have E : ow_E X RX11 cX11_lacksBarrel 2 (ow_rm 1 0 0) := E
  refine or_lv [(0, .ref m), (1, .int b)] rfl ?_
  dsimp only [M_lacksBarrel] at hk
  refine or_aload_n E rfl dX11_lacksBarrel_0 ?_
  refine or_iconst (v := nI 0) E rfl dX11_lacksBarrel_1 ?_
  refine ot_putI E fl_11_54 fw_11_18 dX11_lacksBarrel_2 h_m.1 rfl ?_
  obtain ⟨I1, hI1⟩ : ∃ y_ : ow_I, y_ = ow_u I m 18 (nI 0) := ⟨_, rfl⟩
  replace hk := lt_k (P := fun r : Bool × ow_I => K (some (.int (bi ((r).1)))) (S, (r).2, V, z)) hI1 hk
  refine or_nmI hI1 ?_
  refine or_aload_n E rfl dX11_lacksBarrel_5 ?_
  refine or_aload_n E rfl dX11_lacksBarrel_6 ?_
  refine or_iload_n E rfl dX11_lacksBarrel_7 ?_
  refine or_cV1r (cM_isBarrel  h_m ) E lk_11_268 dX11_lacksBarrel_8 h_m.1 rfl rfl (by decide) (by decide) ⟨Nat.le_refl _, Nat.le_refl _⟩ (Nat.le_of_ble_eq_true rfl) ?_
  refine or_if_neZ 18 E dX11_lacksBarrel_11 rfl (fun q11 => ?_) (fun q11 => ?_)
  · replace hk := ite_p (P := fun r : Bool × ow_I => K (some (.int (bi ((r).1)))) (S, (r).2, V, z)) q11 hk
    refine or_iconst (v := nI 0) E rfl dX11_lacksBarrel_18 ?_
    refine or_iconst (v := nI 1) E rfl dX11_lacksBarrel_19 ?_
    refine or_cV2r (cM_thrF h_m) E lk_11_166 dX11_lacksBarrel_20 h_m.1 rfl rfl (by decide) (by decide) ⟨Nat.le_refl _, Nat.le_refl _⟩ (Nat.le_of_ble_eq_true rfl) ?_
    try dsimp only at hk
    exact or_zret E F dX11_lacksBarrel_23 (Nat.le_refl _) (Nat.le_refl _) (bi_nar _) hk
  · replace hk := ite_n (P := fun r : Bool × ow_I => K (some (.int (bi ((r).1)))) (S, (r).2, V, z)) (bz_neg q11) hk
    refine or_iconst (v := nI 1) E rfl dX11_lacksBarrel_14 ?_
    refine or_goto 19 E dX11_lacksBarrel_15 rfl ?_
    refine or_iconst (v := nI 1) E rfl dX11_lacksBarrel_19 ?_
    refine or_cV2r (cM_thrT h_m) E lk_11_166 dX11_lacksBarrel_20 h_m.1 rfl rfl (by decide) (by decide) ⟨Nat.le_refl _, Nat.le_refl _⟩ (Nat.le_of_ble_eq_true rfl) ?_
    obtain ⟨I2, hI2⟩ : ∃ y_ : ow_I, y_ = ow_u I1 m 18 (nI 1) := ⟨_, rfl⟩
    replace hk := lt_k (P := fun r : Bool × ow_I => K (some (.int (bi ((r).1)))) (S, (r).2, V, z)) hI2 hk
    refine or_nmI hI2 ?_
    try dsimp only at hk
    exact or_zret E F dX11_lacksBarrel_23 (Nat.le_refl _) (Nat.le_refl _) (bi_nar _) hk
