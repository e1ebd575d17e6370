theorem lm_6_163 : ow_lm RX6 163 Lib.Math.min.name Lib.Math.min.code := ⟨ow_T_in 1133 (by decide +kernel) (by decide +kernel), ow_T_in 437 (by decide +kernel) (by decide +kernel), ow_T_in 18 (by decide +kernel) (by decide +kernel), ow_T_in 438 (by decide +kernel) (by decide +kernel)⟩
theorem fl_6_92 : ow_fl RX6 92 8 2 := ⟨_, rfl, by decide, ow_T_in 55 (by decide +kernel) (by decide +kernel), ow_ok8⟩
theorem fl_6_108 : ow_fl RX6 108 1 1 := ⟨_, rfl, by decide, ow_T_in 108 (by decide +kernel) (by decide +kernel), ow_ok1⟩
theorem fw_6_10 : ∃ r : vw_C, ow_cl[6]? = some r ∧ (r.2.1 10).2.2.2 = false ∧ parseFieldDescriptor (r.2.1 10).2.2.1 = some .int := ⟨_, rfl, rfl, by decide +kernel⟩
theorem lk_6_95 : ow_lv RX6 95 yX6_endBidding cX6_endBidding 1 none 0 := ⟨ow_T_in 443 (by decide +kernel) (by decide +kernel), ow_T_in 445 (by decide +kernel) (by decide +kernel), ow_T_sel 3 (by decide +kernel) (by decide +kernel), ow_T_in 2 (by decide +kernel) (by decide +kernel), ow_T_in 446 (by decide +kernel) (by decide +kernel), ⟨by decide +kernel, by decide +kernel, by decide +kernel⟩⟩
theorem lk_6_105 : ow_lv RX6 105 yX6_isWaiting cX6_isWaiting 2 (some .boolean) 1 := ⟨ow_T_in 1082 (by decide +kernel) (by decide +kernel), ow_T_in 1083 (by decide +kernel) (by decide +kernel), ow_T_in 1084 (by decide +kernel) (by decide +kernel), ow_T_in 2 (by decide +kernel) (by decide +kernel), ow_T_in 1085 (by decide +kernel) (by decide +kernel), ⟨by decide +kernel, by decide +kernel, by decide +kernel⟩⟩
theorem lk_6_111 : ow_lv RX6 111 yX6_hasRoom cX6_hasRoom 1 (some .boolean) 0 := ⟨ow_T_in 507 (by decide +kernel) (by decide +kernel), ow_T_in 508 (by decide +kernel) (by decide +kernel), ow_T_in 509 (by decide +kernel) (by decide +kernel), ow_T_in 2 (by decide +kernel) (by decide +kernel), ow_T_in 510 (by decide +kernel) (by decide +kernel), ⟨by decide +kernel, by decide +kernel, by decide +kernel⟩⟩
theorem lk_6_119 : ow_lv RX6 119 yX1_fill cX1_fill 5 none 3 := ⟨ow_T_in 511 (by decide +kernel) (by decide +kernel), ow_T_in 512 (by decide +kernel) (by decide +kernel), ow_T_in 513 (by decide +kernel) (by decide +kernel), ow_T_in 5 (by decide +kernel) (by decide +kernel), ow_T_in 514 (by decide +kernel) (by decide +kernel), ⟨by decide +kernel, by decide +kernel, by decide +kernel⟩⟩
theorem lk_6_123 : ow_lv RX6 123 yX1_beginWaiting cX1_beginWaiting 2 none 1 := ⟨ow_T_in 526 (by decide +kernel) (by decide +kernel), ow_T_in 527 (by decide +kernel) (by decide +kernel), ow_T_in 528 (by decide +kernel) (by decide +kernel), ow_T_in 5 (by decide +kernel) (by decide +kernel), ow_T_in 529 (by decide +kernel) (by decide +kernel), ⟨by decide +kernel, by decide +kernel, by decide +kernel⟩⟩
theorem lk_6_181 : ow_lv RX6 181 yX6_refusal cX6_refusal 2 (some .int) 1 := ⟨ow_T_in 1220 (by decide +kernel) (by decide +kernel), ow_T_in 1042 (by decide +kernel) (by decide +kernel), ow_T_in 1043 (by decide +kernel) (by decide +kernel), ow_T_in 2 (by decide +kernel) (by decide +kernel), ow_T_in 1044 (by decide +kernel) (by decide +kernel), ⟨by decide +kernel, by decide +kernel, by decide +kernel⟩⟩
theorem lk_6_245 : ow_lv RX6 245 yX6_sell cX6_sell 4 none 2 := ⟨ow_T_in 1204 (by decide +kernel) (by decide +kernel), ow_T_in 1206 (by decide +kernel) (by decide +kernel), ow_T_sel 26 (by decide +kernel) (by decide +kernel), ow_T_in 2 (by decide +kernel) (by decide +kernel), ow_T_in 1207 (by decide +kernel) (by decide +kernel), ⟨by decide +kernel, by decide +kernel, by decide +kernel⟩⟩
theorem lk_6_249 : ow_lv RX6 249 yX6_sendBack cX6_sendBack 3 none 1 := ⟨ow_T_in 1208 (by decide +kernel) (by decide +kernel), ow_T_in 1210 (by decide +kernel) (by decide +kernel), ow_T_sel 27 (by decide +kernel) (by decide +kernel), ow_T_in 2 (by decide +kernel) (by decide +kernel), ow_T_in 1211 (by decide +kernel) (by decide +kernel), ⟨by decide +kernel, by decide +kernel, by decide +kernel⟩⟩
theorem wd_1132 : Cond.constant RX6 159 (nI 99999) ∈ ow_T := ow_T_in 1132 (by decide +kernel) (by decide +kernel)
def K_canCut (a : Nat) (x : Int32) (e : Int32) (I : ow_I) : Bool :=
  if K_isWaiting a x I then if e < nI 1 then false else if I (a + 11 + 2 * (tn x)) 1 ≤ e then false else if K_hasRoom a I then true else false else false
set_option maxRecDepth 100000 in
set_option maxHeartbeats 400000 in
theorem cK_canCut {S : Nat → Option ow_Sh} {I : ow_I} {V : Nat → Nat → Value} {z : Nat} {a : Nat} {x : Int32} {e : Int32} (h_a : mk_S S a) (hV : k_V a I) : ow_Cf yX6_canCut cX6_canCut 3 (some .boolean) 2 [.ref a, .int x, .int e] (S, I, V, z) (some (.int (bi (K_canCut a x e I)))) (S, I, V, z) := by
  refine ow_Cf.of rfl (Nat.le_of_ble_eq_true rfl) (fun X K E F hk => ?_)
  have E : ow_E X RX6 cX6_canCut 3 (ow_rm 2 0 0) := E
  refine or_lv [(0, .ref a), (1, .int x), (2, .int e)] rfl ?_
  dsimp only [K_canCut] at hk
  refine or_aload_n E rfl dX6_canCut_0 ?_
  refine or_iload_n E rfl dX6_canCut_1 ?_
  refine or_cV1r (cK_isWaiting  h_a hV) E lk_6_105 dX6_canCut_2 h_a.1 rfl rfl (by decide) (by decide) ⟨Nat.le_refl _, Nat.le_refl _⟩ (Nat.le_of_ble_eq_true rfl) ?_
  refine or_if_eqZ 37 E dX6_canCut_5 rfl (fun q5 => ?_) (fun q5 => ?_)
  · replace hk := ite_n (P := fun r : Bool => K (some (.int (bi (r)))) (S, I, V, z)) (bz_neg q5) hk
    refine or_iconst (v := nI 0) E rfl dX6_canCut_37 ?_
    exact or_zret E F dX6_canCut_38 (Nat.le_refl _) (Nat.le_refl _) (bi_nar false) hk
  · replace hk := ite_p (P := fun r : Bool => K (some (.int (bi (r)))) (S, I, V, z)) q5 hk
    refine or_iload_n E rfl dX6_canCut_8 ?_
    refine or_iconst (v := nI 1) E rfl dX6_canCut_9 ?_
    refine or_icmp_lt 37 E dX6_canCut_10 rfl (fun q10 => ?_) (fun q10 => ?_)
    · replace hk := ite_p (P := fun r : Bool => K (some (.int (bi (r)))) (S, I, V, z)) q10 hk
      refine or_iconst (v := nI 0) E rfl dX6_canCut_37 ?_
      exact or_zret E F dX6_canCut_38 (Nat.le_refl _) (Nat.le_refl _) (bi_nar false) hk
    · replace hk := ite_n (P := fun r : Bool => K (some (.int (bi (r)))) (S, I, V, z)) q10 hk
      refine or_aload_n E rfl dX6_canCut_13 ?_
      refine ot_getC E fl_6_33 dX6_canCut_14 h_a.1 rfl ?_
      refine or_iload_n E rfl dX6_canCut_17 ?_
      refine or_top (nI_tn (kw_1 q5).1).symm ?_
      refine ot_aald (j := tn x) E dX6_canCut_18 h_a.2.2.2.1 rfl rfl (by have := (kw_1 q5).2.1; have := hV.2.1.2; omega) (Nat.le_of_ble_eq_true rfl) ?_
      refine ot_getI E fl_6_108 dX6_canCut_19 (h_a.2.2.2.2.2.2 (tn x) (by have := (kw_1 q5).2.1; have := hV.2.1.2; omega)).1 rfl ?_
      refine or_iload_n E rfl dX6_canCut_22 ?_
      refine or_icmp_le 37 E dX6_canCut_23 rfl (fun q23 => ?_) (fun q23 => ?_)
      · replace hk := ite_p (P := fun r : Bool => K (some (.int (bi (r)))) (S, I, V, z)) q23 hk
        refine or_iconst (v := nI 0) E rfl dX6_canCut_37 ?_
        exact or_zret E F dX6_canCut_38 (Nat.le_refl _) (Nat.le_refl _) (bi_nar false) hk
      · replace hk := ite_n (P := fun r : Bool => K (some (.int (bi (r)))) (S, I, V, z)) q23 hk
        refine or_aload_n E rfl dX6_canCut_26 ?_
        refine or_cV0r (cK_hasRoom  h_a ) E lk_6_111 dX6_canCut_27 h_a.1 rfl rfl (by decide) (by decide) ⟨Nat.le_refl _, Nat.le_refl _⟩ (Nat.le_of_ble_eq_true rfl) ?_
        refine or_if_eqZ 37 E dX6_canCut_30 rfl (fun q30 => ?_) (fun q30 => ?_)
        · replace hk := ite_n (P := fun r : Bool => K (some (.int (bi (r)))) (S, I, V, z)) (bz_neg q30) hk
          refine or_iconst (v := nI 0) E rfl dX6_canCut_37 ?_
          exact or_zret E F dX6_canCut_38 (Nat.le_refl _) (Nat.le_refl _) (bi_nar false) hk
        · replace hk := ite_p (P := fun r : Bool => K (some (.int (bi (r)))) (S, I, V, z)) q30 hk
          refine or_iconst (v := nI 1) E rfl dX6_canCut_33 ?_
          refine or_goto 38 E dX6_canCut_34 rfl ?_
          exact or_zret E F dX6_canCut_38 (Nat.le_refl _) (Nat.le_refl _) (bi_nar true) hk
def K_takeAway (a : Nat) (x : Int32) (I : ow_I) : ow_I :=
  if K_isWaiting a x I then lt (ow_u I (a + 11 + 2 * (tn x)) 7 (nI 3)) (fun (I1 : ow_I) => lt (K_dequeue a x I1) (fun (I2 : ow_I) => I2)) else I
set_option maxRecDepth 100000 in
set_option maxHeartbeats 400000 in
theorem cK_takeAway {S : Nat → Option ow_Sh} {I : ow_I} {V : Nat → Nat → Value} {z : Nat} {a : Nat} {x : Int32} (h_a : mk_S S a) (hV : k_V a I) : ow_Cf yX6_takeAway cX6_takeAway 2 none 2 [.ref a, .int x] (S, I, V, z) none (S, K_takeAway a x I, V, z) := by
  refine ow_Cf.of rfl (Nat.le_of_ble_eq_true rfl) (fun X K E F hk => ?_)
  have E : ow_E X RX6 cX6_takeAway 2 (ow_rm 2 0 0) := E
  refine or_lv [(0, .ref a), (1, .int x)] rfl ?_
  dsimp only [K_takeAway] at hk
  refine or_aload_n E rfl dX6_takeAway_0 ?_
  refine or_iload_n E rfl dX6_takeAway_1 ?_
  refine or_cV1r (cK_isWaiting  h_a hV) E lk_6_105 dX6_takeAway_2 h_a.1 rfl rfl (by decide) (by decide) ⟨Nat.le_refl _, Nat.le_refl _⟩ (Nat.le_of_ble_eq_true rfl) ?_
  refine or_if_eqZ 23 E dX6_takeAway_5 rfl (fun q5 => ?_) (fun q5 => ?_)
  · replace hk := ite_n (P := fun r : ow_I => K none (S, r, V, z)) (bz_neg q5) hk
    exact or_vret E F dX6_takeAway_23 (Nat.le_refl _) (Nat.le_refl _) hk
  · replace hk := ite_p (P := fun r : ow_I => K none (S, r, V, z)) q5 hk
    refine or_aload_n E rfl dX6_takeAway_8 ?_
    refine ot_getC E fl_6_33 dX6_takeAway_9 h_a.1 rfl ?_
    refine or_iload_n E rfl dX6_takeAway_12 ?_
    refine or_top (nI_tn (kw_1 q5).1).symm ?_
    refine ot_aald (j := tn x) E dX6_takeAway_13 h_a.2.2.2.1 rfl rfl (by have := (kw_1 q5).2.1; have := hV.2.1.2; omega) (Nat.le_of_ble_eq_true rfl) ?_
    refine or_iconst (v := nI 3) E rfl dX6_takeAway_14 ?_
    refine ot_putI E fl_6_102 fw_1_7 dX6_takeAway_15 (h_a.2.2.2.2.2.2 (tn x) (by have := (kw_1 q5).2.1; have := hV.2.1.2; omega)).1 rfl ?_
    obtain ⟨I1, hI1⟩ : ∃ y_ : ow_I, y_ = ow_u I (a + 11 + 2 * (tn x)) 7 (nI 3) := ⟨_, rfl⟩
    replace hk := lt_k (P := fun r : ow_I => K none (S, r, V, z)) hI1 hk
    refine or_nmI hI1 ?_
    refine or_aload_n E rfl dX6_takeAway_18 ?_
    refine or_iload_n E rfl dX6_takeAway_19 ?_
    refine or_cV1v (cK_dequeue  h_a (by subst hI1; rw [rr_u (by omega)]; exact hV.2.2.1.1) (by subst hI1; rw [rr_u (by omega)]; exact hV.2.2.1.2)) E lk_6_153 dX6_takeAway_20 h_a.1 rfl rfl (by decide) (by decide) ⟨Nat.le_refl _, Nat.le_refl _⟩ (Nat.le_of_ble_eq_true rfl) ?_
    obtain ⟨I2, hI2⟩ : ∃ y_ : ow_I, y_ = K_dequeue a x I1 := ⟨_, rfl⟩
    replace hk := lt_k (P := fun r : ow_I => K none (S, r, V, z)) hI2 hk
    refine or_nmI hI2 ?_
    exact or_vret E F dX6_takeAway_23 (Nat.le_refl _) (Nat.le_refl _) hk
def K_putCoins (a : Nat) (x : Int32) (c : Int32) (I : ow_I) : ow_I :=
  if K_hasBuyer a x I then lt (ow_u I (a + 5 + (tn x)) 0 (I (a + 5 + (tn x)) 0 + (i_min c (nI 99999 - (I (a + 5 + (tn x)) 0))))) (fun (I1 : ow_I) => lt (ow_u I1 a 6 (I1 a 6 + (i_min c (nI 99999 - (I (a + 5 + (tn x)) 0))))) (fun (I2 : ow_I) => I2)) else I
set_option maxRecDepth 100000 in
set_option maxHeartbeats 400000 in
theorem cK_putCoins {S : Nat → Option ow_Sh} {I : ow_I} {V : Nat → Nat → Value} {z : Nat} {a : Nat} {x : Int32} {c : Int32} (h_a : mk_S S a) (hV : k_V a I) : ow_Cf yX6_putCoins cX6_putCoins 4 none 1 [.ref a, .int x, .int c] (S, I, V, z) none (S, K_putCoins a x c I, V, z) := by
  refine ow_Cf.of rfl (Nat.le_of_ble_eq_true rfl) (fun X K E F hk => ?_)
  have E : ow_E X RX6 cX6_putCoins 4 (ow_rm 1 0 0) := E
  refine or_lv [(0, .ref a), (1, .int x), (2, .int c)] rfl ?_
  dsimp only [K_putCoins] at hk
  refine or_aload_n E rfl dX6_putCoins_0 ?_
  refine or_iload_n E rfl dX6_putCoins_1 ?_
  refine or_cV1r (cK_hasBuyer  h_a ) E lk_6_156 dX6_putCoins_2 h_a.1 rfl rfl (by decide) (by decide) ⟨Nat.le_refl _, Nat.le_refl _⟩ (Nat.le_of_ble_eq_true rfl) ?_
  refine or_if_eqZ 50 E dX6_putCoins_5 rfl (fun q5 => ?_) (fun q5 => ?_)
  · replace hk := ite_n (P := fun r : ow_I => K none (S, r, V, z)) (bz_neg q5) hk
    exact or_vret E F dX6_putCoins_50 (Nat.le_refl _) (Nat.le_refl _) hk
  · replace hk := ite_p (P := fun r : ow_I => K none (S, r, V, z)) q5 hk
    refine or_iload_n E rfl dX6_putCoins_8 ?_
    refine or_ldc (v := nI 99999) E wd_1132 dX6_putCoins_9 ?_
    refine or_aload_n E rfl dX6_putCoins_11 ?_
    refine ot_getC E fl_6_27 dX6_putCoins_12 h_a.1 rfl ?_
    refine or_iload_n E rfl dX6_putCoins_15 ?_
    refine or_top (nI_tn (ky_1 q5).1).symm ?_
    refine ot_aald (j := tn x) E dX6_putCoins_16 h_a.2.2.1 rfl rfl (by have := (ky_1 q5).2; have := hV.1.2; omega) (Nat.le_of_ble_eq_true rfl) ?_
    refine ot_getI E fl_6_160 dX6_putCoins_17 (h_a.2.2.2.2.2.1 (tn x) (by have := (ky_1 q5).2; have := hV.1.2; omega)) rfl ?_
    refine or_isub E dX6_putCoins_20 ?_
    refine or_mmin E lm_6_163 dX6_putCoins_21 (Nat.le_of_ble_eq_true rfl) ⟨Nat.le_refl _, Nat.le_refl _⟩ (Nat.le_of_ble_eq_true rfl) ?_
    refine or_istore_n E dX6_putCoins_24 (by decide) ?_
    refine or_aload_n E rfl dX6_putCoins_25 ?_
    refine ot_getC E fl_6_27 dX6_putCoins_26 h_a.1 rfl ?_
    refine or_iload_n E rfl dX6_putCoins_29 ?_
    refine or_top (nI_tn (ky_1 q5).1).symm ?_
    refine ot_aald (j := tn x) E dX6_putCoins_30 h_a.2.2.1 rfl rfl (by have := (ky_1 q5).2; have := hV.1.2; omega) (Nat.le_of_ble_eq_true rfl) ?_
    refine or_dup E rfl dX6_putCoins_31 ?_
    refine ot_getI E fl_6_160 dX6_putCoins_32 (h_a.2.2.2.2.2.1 (tn x) (by have := (ky_1 q5).2; have := hV.1.2; omega)) rfl ?_
    refine or_iload_n E rfl dX6_putCoins_35 ?_
    refine or_iadd E dX6_putCoins_36 ?_
    refine ot_putI E fl_6_160 fw_2_0 dX6_putCoins_37 (h_a.2.2.2.2.2.1 (tn x) (by have := (ky_1 q5).2; have := hV.1.2; omega)) rfl ?_
    obtain ⟨I1, hI1⟩ : ∃ y_ : ow_I, y_ = ow_u I (a + 5 + (tn x)) 0 (I (a + 5 + (tn x)) 0 + (i_min c (nI 99999 - (I (a + 5 + (tn x)) 0)))) := ⟨_, rfl⟩
    replace hk := lt_k (P := fun r : ow_I => K none (S, r, V, z)) hI1 hk
    refine or_nmI hI1 ?_
    refine or_aload_n E rfl dX6_putCoins_40 ?_
    refine or_dup E rfl dX6_putCoins_41 ?_
    refine ot_getI E fl_6_68 dX6_putCoins_42 h_a.1 rfl ?_
    refine or_iload_n E rfl dX6_putCoins_45 ?_
    refine or_iadd E dX6_putCoins_46 ?_
    refine ot_putI E fl_6_68 fw_6_6 dX6_putCoins_47 h_a.1 rfl ?_
    obtain ⟨I2, hI2⟩ : ∃ y_ : ow_I, y_ = ow_u I1 a 6 (I1 a 6 + (i_min c (nI 99999 - (I (a + 5 + (tn x)) 0)))) := ⟨_, rfl⟩
    replace hk := lt_k (P := fun r : ow_I => K none (S, r, V, z)) hI2 hk
    refine or_nmI hI2 ?_
    exact or_vret E F dX6_putCoins_50 (Nat.le_refl _) (Nat.le_refl _) hk
def K_takeBarrel (a : Nat) (r : Int32) (f : Nat) (s : Nat) (e : Nat) (I : ow_I) : Int32 × ow_I :=
  if K_hasRoom a I then lt (ow_u I a 10 (I a 10 + (nI 1))) (fun (I1 : ow_I) => lt (B_fill (a + 11 + 2 * (tn (I a 10))) f s e I1) (fun (I2 : ow_I) => lt (B_beginWaiting (a + 11 + 2 * (tn (I a 10))) r I2) (fun (I3 : ow_I) => lt (K_enqueue a (nI (tn (I a 10))) I3) (fun (I4 : ow_I) => (nI (tn (I a 10)), I4))))) else ((-1), I)
set_option maxRecDepth 100000 in
set_option maxHeartbeats 400000 in
theorem cK_takeBarrel {S : Nat → Option ow_Sh} {I : ow_I} {V : Nat → Nat → Value} {z : Nat} {a : Nat} {r : Int32} {f : Nat} {s : Nat} {e : Nat} (h_a : mk_S S a) (h_f : i9_S S f) (hV : k_V a I) (hs : s ≤ 9) (hee : e < 2 ^ 31) : ow_Cf yX6_takeBarrel cX6_takeBarrel 6 (some .int) 3 [.ref a, .int r, .ref f, .int (nI s), .int (nI e)] (S, I, V, z) (some (.int ((K_takeBarrel a r f s e I).1))) (S, (K_takeBarrel a r f s e I).2, V, z) := by
  refine ow_Cf.of rfl (Nat.le_of_ble_eq_true rfl) (fun X K E F hk => ?_)
  have E : ow_E X RX6 cX6_takeBarrel 6 (ow_rm 3 0 0) := E
  refine or_lv [(0, .ref a), (1, .int r), (2, .ref f), (3, .int (nI s)), (4, .int (nI e))] rfl ?_
  dsimp only [K_takeBarrel] at hk
  refine or_aload_n E rfl dX6_takeBarrel_0 ?_
  refine or_cV0r (cK_hasRoom  h_a ) E lk_6_111 dX6_takeBarrel_1 h_a.1 rfl rfl (by decide) (by decide) ⟨Nat.le_refl _, Nat.le_refl _⟩ (Nat.le_of_ble_eq_true rfl) ?_
  refine or_if_neZ 9 E dX6_takeBarrel_4 rfl (fun q4 => ?_) (fun q4 => ?_)
  · replace hk := ite_p (P := fun r : Int32 × ow_I => K (some (.int ((r).1))) (S, (r).2, V, z)) q4 hk
    refine or_aload_n E rfl dX6_takeBarrel_9 ?_
    refine ot_getI E fl_6_77 dX6_takeBarrel_10 h_a.1 rfl ?_
    refine or_top (nI_tn hV.2.1.1).symm ?_
    refine or_istore E dX6_takeBarrel_13 (by decide) ?_
    refine or_aload_n E rfl dX6_takeBarrel_15 ?_
    refine or_dup E rfl dX6_takeBarrel_16 ?_
    refine ot_getI E fl_6_77 dX6_takeBarrel_17 h_a.1 rfl ?_
    refine or_iconst (v := nI 1) E rfl dX6_takeBarrel_20 ?_
    refine or_iadd E dX6_takeBarrel_21 ?_
    refine ot_putI E fl_6_77 fw_6_10 dX6_takeBarrel_22 h_a.1 rfl ?_
    obtain ⟨I1, hI1⟩ : ∃ y_ : ow_I, y_ = ow_u I a 10 (I a 10 + (nI 1)) := ⟨_, rfl⟩
    replace hk := lt_k (P := fun r : Int32 × ow_I => K (some (.int ((r).1))) (S, (r).2, V, z)) hI1 hk
    refine or_nmI hI1 ?_
    refine or_aload_n E rfl dX6_takeBarrel_25 ?_
    refine ot_getC E fl_6_33 dX6_takeBarrel_26 h_a.1 rfl ?_
    refine or_iload E rfl dX6_takeBarrel_29 ?_
    refine ot_aald (j := tn (I a 10)) E dX6_takeBarrel_31 h_a.2.2.2.1 rfl rfl (kr_1 q4 hV.2.1.1) (Nat.le_of_ble_eq_true rfl) ?_
    refine or_aload_n E rfl dX6_takeBarrel_32 ?_
    refine or_iload_n E rfl dX6_takeBarrel_33 ?_
    refine or_iload E rfl dX6_takeBarrel_34 ?_
    refine or_cV3v (cB_fill  (h_a.2.2.2.2.2.2 (tn (I a 10)) (kr_1 q4 hV.2.1.1)) h_f hs hee) E lk_6_119 dX6_takeBarrel_36 (h_a.2.2.2.2.2.2 (tn (I a 10)) (kr_1 q4 hV.2.1.1)).1 rfl rfl (by decide) (by decide) ⟨Nat.le_refl _, Nat.le_refl _⟩ (Nat.le_of_ble_eq_true rfl) ?_
    obtain ⟨I2, hI2⟩ : ∃ y_ : ow_I, y_ = B_fill (a + 11 + 2 * (tn (I a 10))) f s e I1 := ⟨_, rfl⟩
    replace hk := lt_k (P := fun r : Int32 × ow_I => K (some (.int ((r).1))) (S, (r).2, V, z)) hI2 hk
    refine or_nmI hI2 ?_
    refine or_aload_n E rfl dX6_takeBarrel_39 ?_
    refine ot_getC E fl_6_33 dX6_takeBarrel_40 h_a.1 rfl ?_
    refine or_iload E rfl dX6_takeBarrel_43 ?_
    refine ot_aald (j := tn (I a 10)) E dX6_takeBarrel_45 h_a.2.2.2.1 rfl rfl (kr_1 q4 hV.2.1.1) (Nat.le_of_ble_eq_true rfl) ?_
    refine or_iload_n E rfl dX6_takeBarrel_46 ?_
    refine or_cV1v (cB_beginWaiting  (h_a.2.2.2.2.2.2 (tn (I a 10)) (kr_1 q4 hV.2.1.1)) ) E lk_6_123 dX6_takeBarrel_47 (h_a.2.2.2.2.2.2 (tn (I a 10)) (kr_1 q4 hV.2.1.1)).1 rfl rfl (by decide) (by decide) ⟨Nat.le_refl _, Nat.le_refl _⟩ (Nat.le_of_ble_eq_true rfl) ?_
    obtain ⟨I3, hI3⟩ : ∃ y_ : ow_I, y_ = B_beginWaiting (a + 11 + 2 * (tn (I a 10))) r I2 := ⟨_, rfl⟩
    replace hk := lt_k (P := fun r : Int32 × ow_I => K (some (.int ((r).1))) (S, (r).2, V, z)) hI3 hk
    refine or_nmI hI3 ?_
    refine or_aload_n E rfl dX6_takeBarrel_50 ?_
    refine or_iload E rfl dX6_takeBarrel_51 ?_
    refine or_cV1v (cK_enqueue  h_a (by subst hI3 hI2 hI1; have := (kr_1 q4 hV.2.1.1); rw [rr_bbw (by omega), rr_bf (by omega) (by omega), ow_u_k _ _ _ _ (by decide)]; exact hV.2.2.1.1) (by subst hI3 hI2 hI1; have := (kr_1 q4 hV.2.1.1); rw [rr_bbw (by omega), rr_bf (by omega) (by omega), ow_u_k _ _ _ _ (by decide)]; exact hV.2.2.1.2)) E lk_6_127 dX6_takeBarrel_53 h_a.1 rfl rfl (by decide) (by decide) ⟨Nat.le_refl _, Nat.le_refl _⟩ (Nat.le_of_ble_eq_true rfl) ?_
    obtain ⟨I4, hI4⟩ : ∃ y_ : ow_I, y_ = K_enqueue a (nI (tn (I a 10))) I3 := ⟨_, rfl⟩
    replace hk := lt_k (P := fun r : Int32 × ow_I => K (some (.int ((r).1))) (S, (r).2, V, z)) hI4 hk
    refine or_nmI hI4 ?_
    refine or_iload E rfl dX6_takeBarrel_56 ?_
    try dsimp only at hk
    exact or_iret E F dX6_takeBarrel_58 (Nat.le_refl _) (Nat.le_refl _) hk
  · replace hk := ite_n (P := fun r : Int32 × ow_I => K (some (.int ((r).1))) (S, (r).2, V, z)) (bz_neg q4) hk
    refine or_iconst (v := -1) E rfl dX6_takeBarrel_7 ?_
    try dsimp only at hk
    exact or_iret E F dX6_takeBarrel_8 (Nat.le_refl _) (Nat.le_refl _) hk
def K_beginEmpty (a : Nat) (I : ow_I) : ow_I :=
  lt (ow_u I (a + 1) 2 (nI 0)) (fun (I1 : ow_I) => lt (ow_u I1 a 4 (nI 0)) (fun (I2 : ow_I) => lt (ow_u I2 a 5 (nI 0)) (fun (I3 : ow_I) => lt (ow_u I3 a 6 (nI 0)) (fun (I4 : ow_I) => lt (ow_u I4 a 8 (nI 0)) (fun (I5 : ow_I) => lt (ow_u I5 a 10 (nI 0)) (fun (I6 : ow_I) => lt (ow_u I6 a 12 (nI 0)) (fun (I7 : ow_I) => lt (K_endBidding a I7) (fun (I8 : ow_I) => I8))))))))
set_option maxRecDepth 100000 in
set_option maxHeartbeats 400000 in
theorem cK_beginEmpty {S : Nat → Option ow_Sh} {I : ow_I} {V : Nat → Nat → Value} {z : Nat} {a : Nat} (h_a : mk_S S a)  : ow_Cf yX6_beginEmpty cX6_beginEmpty 1 none 1 [.ref a] (S, I, V, z) none (S, K_beginEmpty a I, V, z) := by
  refine ow_Cf.of rfl (Nat.le_of_ble_eq_true rfl) (fun X K E F hk => ?_)
  have E : ow_E X RX6 cX6_beginEmpty 1 (ow_rm 1 0 0) := E
  refine or_lv [(0, .ref a)] rfl ?_
  dsimp only [K_beginEmpty] at hk
  refine or_aload_n E rfl dX6_beginEmpty_0 ?_
  refine ot_getC E fl_6_12 dX6_beginEmpty_1 h_a.1 rfl ?_
  refine or_iconst (v := nI 0) E rfl dX6_beginEmpty_4 ?_
  refine ot_putI E fl_6_92 fw_8_2 dX6_beginEmpty_5 h_a.2.1 rfl ?_
  obtain ⟨I1, hI1⟩ : ∃ y_ : ow_I, y_ = ow_u I (a + 1) 2 (nI 0) := ⟨_, rfl⟩
  replace hk := lt_k (P := fun r : ow_I => K none (S, r, V, z)) hI1 hk
  refine or_nmI hI1 ?_
  refine or_aload_n E rfl dX6_beginEmpty_8 ?_
  refine or_iconst (v := nI 0) E rfl dX6_beginEmpty_9 ?_
  refine ot_putI E fl_6_62 fw_6_4 dX6_beginEmpty_10 h_a.1 rfl ?_
  obtain ⟨I2, hI2⟩ : ∃ y_ : ow_I, y_ = ow_u I1 a 4 (nI 0) := ⟨_, rfl⟩
  replace hk := lt_k (P := fun r : ow_I => K none (S, r, V, z)) hI2 hk
  refine or_nmI hI2 ?_
  refine or_aload_n E rfl dX6_beginEmpty_13 ?_
  refine or_iconst (v := nI 0) E rfl dX6_beginEmpty_14 ?_
  refine ot_putI E fl_6_65 fw_6_5 dX6_beginEmpty_15 h_a.1 rfl ?_
  obtain ⟨I3, hI3⟩ : ∃ y_ : ow_I, y_ = ow_u I2 a 5 (nI 0) := ⟨_, rfl⟩
  replace hk := lt_k (P := fun r : ow_I => K none (S, r, V, z)) hI3 hk
  refine or_nmI hI3 ?_
  refine or_aload_n E rfl dX6_beginEmpty_18 ?_
  refine or_iconst (v := nI 0) E rfl dX6_beginEmpty_19 ?_
  refine ot_putI E fl_6_68 fw_6_6 dX6_beginEmpty_20 h_a.1 rfl ?_
  obtain ⟨I4, hI4⟩ : ∃ y_ : ow_I, y_ = ow_u I3 a 6 (nI 0) := ⟨_, rfl⟩
  replace hk := lt_k (P := fun r : ow_I => K none (S, r, V, z)) hI4 hk
  refine or_nmI hI4 ?_
  refine or_aload_n E rfl dX6_beginEmpty_23 ?_
  refine or_iconst (v := nI 0) E rfl dX6_beginEmpty_24 ?_
  refine ot_putI E fl_6_71 fw_6_8 dX6_beginEmpty_25 h_a.1 rfl ?_
  obtain ⟨I5, hI5⟩ : ∃ y_ : ow_I, y_ = ow_u I4 a 8 (nI 0) := ⟨_, rfl⟩
  replace hk := lt_k (P := fun r : ow_I => K none (S, r, V, z)) hI5 hk
  refine or_nmI hI5 ?_
  refine or_aload_n E rfl dX6_beginEmpty_28 ?_
  refine or_iconst (v := nI 0) E rfl dX6_beginEmpty_29 ?_
  refine ot_putI E fl_6_77 fw_6_10 dX6_beginEmpty_30 h_a.1 rfl ?_
  obtain ⟨I6, hI6⟩ : ∃ y_ : ow_I, y_ = ow_u I5 a 10 (nI 0) := ⟨_, rfl⟩
  replace hk := lt_k (P := fun r : ow_I => K none (S, r, V, z)) hI6 hk
  refine or_nmI hI6 ?_
  refine or_aload_n E rfl dX6_beginEmpty_33 ?_
  refine or_iconst (v := nI 0) E rfl dX6_beginEmpty_34 ?_
  refine ot_putI E fl_6_89 fw_6_12 dX6_beginEmpty_35 h_a.1 rfl ?_
  obtain ⟨I7, hI7⟩ : ∃ y_ : ow_I, y_ = ow_u I6 a 12 (nI 0) := ⟨_, rfl⟩
  replace hk := lt_k (P := fun r : ow_I => K none (S, r, V, z)) hI7 hk
  refine or_nmI hI7 ?_
  refine or_aload_n E rfl dX6_beginEmpty_38 ?_
  refine or_cV0v (cK_endBidding  h_a ) E lk_6_95 dX6_beginEmpty_39 h_a.1 rfl rfl (by decide) (by decide) ⟨Nat.le_refl _, Nat.le_refl _⟩ (Nat.le_of_ble_eq_true rfl) ?_
  obtain ⟨I8, hI8⟩ : ∃ y_ : ow_I, y_ = K_endBidding a I7 := ⟨_, rfl⟩
  replace hk := lt_k (P := fun r : ow_I => K none (S, r, V, z)) hI8 hk
  refine or_nmI hI8 ?_
  exact or_vret E F dX6_beginEmpty_42 (Nat.le_refl _) (Nat.le_refl _) hk
def K_closeBarrel (a : Nat) (I : ow_I) : Bool × ow_I :=
  if I a 13 = (-1) then (false, I) else if I a 15 = (-1) then lt (K_sendBack a (tn (I a 13)) I) (fun (I1 : ow_I) => lt (K_endBidding a I1) (fun (I2 : ow_I) => (false, I2))) else lt (K_sell a (a + 11 + 2 * (tn (I a 13))) (a + 5 + (tn (I a 15))) I) (fun (I3 : ow_I) => lt (K_endBidding a I3) (fun (I4 : ow_I) => (true, I4)))
set_option maxRecDepth 100000 in
set_option maxHeartbeats 400000 in
theorem cK_closeBarrel {S : Nat → Option ow_Sh} {I : ow_I} {V : Nat → Nat → Value} {z : Nat} {a : Nat} (h_a : mk_S S a) (hV : k_V a I) : ow_Cf yX6_closeBarrel cX6_closeBarrel 2 (some .boolean) 2 [.ref a] (S, I, V, z) (some (.int (bi ((K_closeBarrel a I).1)))) (S, (K_closeBarrel a I).2, V, z) := by
  refine ow_Cf.of rfl (Nat.le_of_ble_eq_true rfl) (fun X K E F hk => ?_)
  have E : ow_E X RX6 cX6_closeBarrel 2 (ow_rm 2 0 0) := E
  refine or_lv [(0, .ref a)] rfl ?_
  dsimp only [K_closeBarrel] at hk
  refine or_aload_n E rfl dX6_closeBarrel_0 ?_
  refine ot_getI E fl_6_41 dX6_closeBarrel_1 h_a.1 rfl ?_
  refine or_iconst (v := -1) E rfl dX6_closeBarrel_4 ?_
  refine or_icmp_ne 10 E dX6_closeBarrel_5 rfl (fun q5 => ?_) (fun q5 => ?_)
  · replace hk := ite_n (P := fun r : Bool × ow_I => K (some (.int (bi ((r).1)))) (S, (r).2, V, z)) q5 hk
    refine or_aload_n E rfl dX6_closeBarrel_10 ?_
    refine ot_getI E fl_6_47 dX6_closeBarrel_11 h_a.1 rfl ?_
    refine or_iconst (v := -1) E rfl dX6_closeBarrel_14 ?_
    refine or_icmp_eq 22 E dX6_closeBarrel_15 rfl (fun q15 => ?_) (fun q15 => ?_)
    · replace hk := ite_p (P := fun r : Bool × ow_I => K (some (.int (bi ((r).1)))) (S, (r).2, V, z)) q15 hk
      refine or_iconst (v := nI 0) E rfl dX6_closeBarrel_22 ?_
      refine or_istore_n E dX6_closeBarrel_23 (by decide) ?_
      refine or_iload_n E rfl dX6_closeBarrel_24 ?_
      refine or_if_eqN 53 E dX6_closeBarrel_25 rfl (by omega) (fun q25 => ?_) (fun q25 => absurd q25 (by decide))
      refine or_aload_n E rfl dX6_closeBarrel_53 ?_
      refine or_aload_n E rfl dX6_closeBarrel_54 ?_
      refine ot_getI E fl_6_41 dX6_closeBarrel_55 h_a.1 rfl ?_
      refine or_top (nI_tn (ko_1 hV q5).1).symm ?_
      refine or_cV1v (cK_sendBack  h_a (ko_1 hV q5).2 hV.2.2.1.1 hV.2.2.1.2) E lk_6_249 dX6_closeBarrel_58 h_a.1 rfl rfl (by decide) (by decide) ⟨Nat.le_refl _, Nat.le_refl _⟩ (Nat.le_of_ble_eq_true rfl) ?_
      obtain ⟨I1, hI1⟩ : ∃ y_ : ow_I, y_ = K_sendBack a (tn (I a 13)) I := ⟨_, rfl⟩
      replace hk := lt_k (P := fun r : Bool × ow_I => K (some (.int (bi ((r).1)))) (S, (r).2, V, z)) hI1 hk
      refine or_nmI hI1 ?_
      refine or_aload_n E rfl dX6_closeBarrel_61 ?_
      refine or_cV0v (cK_endBidding  h_a ) E lk_6_95 dX6_closeBarrel_62 h_a.1 rfl rfl (by decide) (by decide) ⟨Nat.le_refl _, Nat.le_refl _⟩ (Nat.le_of_ble_eq_true rfl) ?_
      obtain ⟨I2, hI2⟩ : ∃ y_ : ow_I, y_ = K_endBidding a I1 := ⟨_, rfl⟩
      replace hk := lt_k (P := fun r : Bool × ow_I => K (some (.int (bi ((r).1)))) (S, (r).2, V, z)) hI2 hk
      refine or_nmI hI2 ?_
      refine or_iload_n E rfl dX6_closeBarrel_65 ?_
      try dsimp only at hk
      exact or_zret E F dX6_closeBarrel_66 (Nat.le_refl _) (Nat.le_refl _) (bi_nar false) hk
    · replace hk := ite_n (P := fun r : Bool × ow_I => K (some (.int (bi ((r).1)))) (S, (r).2, V, z)) q15 hk
      refine or_iconst (v := nI 1) E rfl dX6_closeBarrel_18 ?_
      refine or_goto 23 E dX6_closeBarrel_19 rfl ?_
      refine or_istore_n E dX6_closeBarrel_23 (by decide) ?_
      refine or_iload_n E rfl dX6_closeBarrel_24 ?_
      refine or_if_eqN 53 E dX6_closeBarrel_25 rfl (by omega) (fun q25 => absurd q25 (by decide)) (fun q25 => ?_)
      refine or_aload_n E rfl dX6_closeBarrel_28 ?_
      refine or_aload_n E rfl dX6_closeBarrel_29 ?_
      refine ot_getC E fl_6_33 dX6_closeBarrel_30 h_a.1 rfl ?_
      refine or_aload_n E rfl dX6_closeBarrel_33 ?_
      refine ot_getI E fl_6_41 dX6_closeBarrel_34 h_a.1 rfl ?_
      refine or_top (nI_tn (ko_1 hV q5).1).symm ?_
      refine ot_aald (j := tn (I a 13)) E dX6_closeBarrel_37 h_a.2.2.2.1 rfl rfl (ko_1 hV q5).2 (Nat.le_of_ble_eq_true rfl) ?_
      refine or_aload_n E rfl dX6_closeBarrel_38 ?_
      refine ot_getC E fl_6_27 dX6_closeBarrel_39 h_a.1 rfl ?_
      refine or_aload_n E rfl dX6_closeBarrel_42 ?_
      refine ot_getI E fl_6_47 dX6_closeBarrel_43 h_a.1 rfl ?_
      refine or_top (nI_tn (kl_1 hV q15).1).symm ?_
      refine ot_aald (j := tn (I a 15)) E dX6_closeBarrel_46 h_a.2.2.1 rfl rfl (kl_1 hV q15).2 (Nat.le_of_ble_eq_true rfl) ?_
      refine or_cV2v (cK_sell  h_a (h_a.2.2.2.2.2.2 (tn (I a 13)) (ko_1 hV q5).2) (h_a.2.2.2.2.2.1 (tn (I a 15)) (kl_1 hV q15).2) ) E lk_6_245 dX6_closeBarrel_47 h_a.1 rfl rfl (by decide) (by decide) ⟨Nat.le_refl _, Nat.le_refl _⟩ (Nat.le_of_ble_eq_true rfl) ?_
      obtain ⟨I3, hI3⟩ : ∃ y_ : ow_I, y_ = K_sell a (a + 11 + 2 * (tn (I a 13))) (a + 5 + (tn (I a 15))) I := ⟨_, rfl⟩
      replace hk := lt_k (P := fun r : Bool × ow_I => K (some (.int (bi ((r).1)))) (S, (r).2, V, z)) hI3 hk
      refine or_nmI hI3 ?_
      refine or_goto 61 E dX6_closeBarrel_50 rfl ?_
      refine or_aload_n E rfl dX6_closeBarrel_61 ?_
      refine or_cV0v (cK_endBidding  h_a ) E lk_6_95 dX6_closeBarrel_62 h_a.1 rfl rfl (by decide) (by decide) ⟨Nat.le_refl _, Nat.le_refl _⟩ (Nat.le_of_ble_eq_true rfl) ?_
      obtain ⟨I4, hI4⟩ : ∃ y_ : ow_I, y_ = K_endBidding a I3 := ⟨_, rfl⟩
      replace hk := lt_k (P := fun r : Bool × ow_I => K (some (.int (bi ((r).1)))) (S, (r).2, V, z)) hI4 hk
      refine or_nmI hI4 ?_
      refine or_iload_n E rfl dX6_closeBarrel_65 ?_
      try dsimp only at hk
      exact or_zret E F dX6_closeBarrel_66 (Nat.le_refl _) (Nat.le_refl _) (bi_nar true) hk
  · replace hk := ite_p (P := fun r : Bool × ow_I => K (some (.int (bi ((r).1)))) (S, (r).2, V, z)) q5 hk
    refine or_iconst (v := nI 0) E rfl dX6_closeBarrel_8 ?_
    try dsimp only at hk
    exact or_zret E F dX6_closeBarrel_9 (Nat.le_refl _) (Nat.le_refl _) (bi_nar false) hk
def K_whoNods_L33 (a : Nat) : Nat → ow_I → Int32 → Nat → Int32
  | 0, I, _, _ => default
  | n + 1, I, y, i => if tn (I a 8) ≤ i then (-1) else if nI (tn (I a 8)) ≤ y + (nI 1) then if K_refusal a (nI 0) I = 0 then if Op.cmpValue (FP.dcmp (Y_valueOf (a + 5 + 0) (a + 11 + 2 * (tn (I a 13))) I) (FP.i2d (K_nextPrice a I))) .l < 0 then K_whoNods_L33 a n I (nI 0) (i + 1) else nI 0 else K_whoNods_L33 a n I (nI 0) (i + 1) else if K_refusal a (y + (nI 1)) I = 0 then if Op.cmpValue (FP.dcmp (Y_valueOf (a + 5 + (tn (y + (nI 1)))) (a + 11 + 2 * (tn (I a 13))) I) (FP.i2d (K_nextPrice a I))) .l < 0 then K_whoNods_L33 a n I (y + (nI 1)) (i + 1) else y + (nI 1) else K_whoNods_L33 a n I (y + (nI 1)) (i + 1)
def K_whoNods (a : Nat) (I : ow_I) : Int32 :=
  if I a 13 = (-1) then (-1) else K_whoNods_L33 a 7 I (I a 15) 0
set_option maxRecDepth 100000 in
set_option maxHeartbeats 400000 in
theorem cK_whoNods {S : Nat → Option ow_Sh} {I : ow_I} {V : Nat → Nat → Value} {z : Nat} {a : Nat} (h_a : mk_S S a) (hV : k_V a I) : ow_Cf yX6_whoNods cX6_whoNods 5 (some .int) 2 [.ref a] (S, I, V, z) (some (.int (K_whoNods a I))) (S, I, V, z) := by
  refine ow_Cf.of rfl (Nat.le_of_ble_eq_true rfl) (fun X K E F hk => ?_)
  have E : ow_E X RX6 cX6_whoNods 5 (ow_rm 2 0 0) := E
  refine or_lv [(0, .ref a)] rfl ?_
  have L33 : ∀ (n : Nat) (I : ow_I) (y : Int32) (i : Nat) (hV : k_V a I) (q5 : ¬ I a 13 = (-1)) (hi : i ≤ 6) (hm : 6 - i < n) (hk : K (some (.int (K_whoNods_L33 a n I y i))) (S, I, V, z)), ow_W X 0 0 (S, I, V, z) 33 [(0, .ref a), (1, .ref (a + 11 + 2 * (tn (I a 13)))), (2, .int (K_nextPrice a I)), (3, .int y), (4, .int (nI i))] [] := by
    intro n
    induction n with
    | zero => intro I y i hV q5 hi hm; omega
    | succ n ih =>
      intro I y i hV q5 hi hm hk
      dsimp only [K_whoNods_L33] at hk
      have h8b := hV.1.2
      refine or_iload E rfl dX6_whoNods_33 ?_
      refine or_aload_n E rfl dX6_whoNods_35 ?_
      refine ot_getI E fl_6_71 dX6_whoNods_36 h_a.1 rfl ?_
      refine or_top (nI_tn hV.1.1).symm ?_
      refine or_icmp_geN 92 E dX6_whoNods_39 rfl (by omega) (by omega) (fun q39 => ?_) (fun q39 => ?_)
      · replace hk := ite_p (P := fun r : Int32 => K (some (.int (r))) (S, I, V, z)) q39 hk
        refine or_iconst (v := -1) E rfl dX6_whoNods_92 ?_
        exact or_iret E F dX6_whoNods_93 (Nat.le_refl _) (Nat.le_refl _) hk
      · replace hk := ite_n (P := fun r : Int32 => K (some (.int (r))) (S, I, V, z)) q39 hk
        refine or_iload_n E rfl dX6_whoNods_42 ?_
        refine or_iconst (v := nI 1) E rfl dX6_whoNods_43 ?_
        refine or_iadd E dX6_whoNods_44 ?_
        refine or_aload_n E rfl dX6_whoNods_45 ?_
        refine ot_getI E fl_6_71 dX6_whoNods_46 h_a.1 rfl ?_
        refine or_top (nI_tn hV.1.1).symm ?_
        refine or_icmp_ge 58 E dX6_whoNods_49 rfl (fun q49 => ?_) (fun q49 => ?_)
        · replace hk := ite_p (P := fun r : Int32 => K (some (.int (r))) (S, I, V, z)) q49 hk
          refine or_iconst (v := nI 0) E rfl dX6_whoNods_58 ?_
          refine or_istore_n E dX6_whoNods_59 (by decide) ?_
          refine or_aload_n E rfl dX6_whoNods_60 ?_
          refine or_iload_n E rfl dX6_whoNods_61 ?_
          refine or_cV1r (cK_refusal  h_a hV) E lk_6_181 dX6_whoNods_62 h_a.1 rfl rfl (by decide) (by decide) ⟨Nat.le_refl _, Nat.le_refl _⟩ (Nat.le_of_ble_eq_true rfl) ?_
          refine or_if_ne 86 E dX6_whoNods_65 rfl (fun q65 => ?_) (fun q65 => ?_)
          · replace hk := ite_n (P := fun r : Int32 => K (some (.int (r))) (S, I, V, z)) q65 hk
            refine or_iincN (c := 1) E dX6_whoNods_86 rfl rfl (by decide) ?_
            refine or_goto 33 E dX6_whoNods_89 rfl ?_
            refine or_lv _ ?_ (ih _ _ _ hV q5 (by omega) (by omega) hk)
            rfl
          · replace hk := ite_p (P := fun r : Int32 => K (some (.int (r))) (S, I, V, z)) q65 hk
            refine or_aload_n E rfl dX6_whoNods_68 ?_
            refine ot_getC E fl_6_27 dX6_whoNods_69 h_a.1 rfl ?_
            refine or_iload_n E rfl dX6_whoNods_72 ?_
            refine ot_aald (j := 0) E dX6_whoNods_73 h_a.2.2.1 rfl rfl (by decide) (Nat.le_of_ble_eq_true rfl) ?_
            refine or_aload_n E rfl dX6_whoNods_74 ?_
            refine or_cV1r (cY_valueOf  (h_a.2.2.2.2.2.1 0 (by decide)) (h_a.2.2.2.2.2.2 (tn (I a 13)) (ko_1 hV q5).2) ) E lk_6_166 dX6_whoNods_75 (h_a.2.2.2.2.2.1 0 (by decide)) rfl rfl (by decide) (by decide) ⟨Nat.le_refl _, Nat.le_refl _⟩ (Nat.le_of_ble_eq_true rfl) ?_
            refine or_iload_n E rfl dX6_whoNods_78 ?_
            refine or_i2d E dX6_whoNods_79 ?_
            refine or_dcmp E dX6_whoNods_80 ?_
            refine or_if_lt 86 E dX6_whoNods_81 rfl (fun q81 => ?_) (fun q81 => ?_)
            · replace hk := ite_p (P := fun r : Int32 => K (some (.int (r))) (S, I, V, z)) q81 hk
              refine or_iincN (c := 1) E dX6_whoNods_86 rfl rfl (by decide) ?_
              refine or_goto 33 E dX6_whoNods_89 rfl ?_
              refine or_lv _ ?_ (ih _ _ _ hV q5 (by omega) (by omega) hk)
              rfl
            · replace hk := ite_n (P := fun r : Int32 => K (some (.int (r))) (S, I, V, z)) q81 hk
              refine or_iload_n E rfl dX6_whoNods_84 ?_
              exact or_iret E F dX6_whoNods_85 (Nat.le_refl _) (Nat.le_refl _) hk
        · replace hk := ite_n (P := fun r : Int32 => K (some (.int (r))) (S, I, V, z)) q49 hk
          refine or_iload_n E rfl dX6_whoNods_52 ?_
          refine or_iconst (v := nI 1) E rfl dX6_whoNods_53 ?_
          refine or_iadd E dX6_whoNods_54 ?_
          refine or_goto 59 E dX6_whoNods_55 rfl ?_
          refine or_istore_n E dX6_whoNods_59 (by decide) ?_
          refine or_aload_n E rfl dX6_whoNods_60 ?_
          refine or_iload_n E rfl dX6_whoNods_61 ?_
          refine or_cV1r (cK_refusal  h_a hV) E lk_6_181 dX6_whoNods_62 h_a.1 rfl rfl (by decide) (by decide) ⟨Nat.le_refl _, Nat.le_refl _⟩ (Nat.le_of_ble_eq_true rfl) ?_
          refine or_if_ne 86 E dX6_whoNods_65 rfl (fun q65 => ?_) (fun q65 => ?_)
          · replace hk := ite_n (P := fun r : Int32 => K (some (.int (r))) (S, I, V, z)) q65 hk
            refine or_iincN (c := 1) E dX6_whoNods_86 rfl rfl (by decide) ?_
            refine or_goto 33 E dX6_whoNods_89 rfl ?_
            refine or_lv _ ?_ (ih _ _ _ hV q5 (by omega) (by omega) hk)
            rfl
          · replace hk := ite_p (P := fun r : Int32 => K (some (.int (r))) (S, I, V, z)) q65 hk
            refine or_aload_n E rfl dX6_whoNods_68 ?_
            refine ot_getC E fl_6_27 dX6_whoNods_69 h_a.1 rfl ?_
            refine or_iload_n E rfl dX6_whoNods_72 ?_
            refine or_top (nI_tn (ref_0 q65).1).symm ?_
            refine ot_aald (j := tn (y + (nI 1))) E dX6_whoNods_73 h_a.2.2.1 rfl rfl (by have := (ref_0 q65).2; have := hV.1.2; omega) (Nat.le_of_ble_eq_true rfl) ?_
            refine or_aload_n E rfl dX6_whoNods_74 ?_
            refine or_cV1r (cY_valueOf  (h_a.2.2.2.2.2.1 (tn (y + (nI 1))) (by have := (ref_0 q65).2; have := hV.1.2; omega)) (h_a.2.2.2.2.2.2 (tn (I a 13)) (ko_1 hV q5).2) ) E lk_6_166 dX6_whoNods_75 (h_a.2.2.2.2.2.1 (tn (y + (nI 1))) (by have := (ref_0 q65).2; have := hV.1.2; omega)) rfl rfl (by decide) (by decide) ⟨Nat.le_refl _, Nat.le_refl _⟩ (Nat.le_of_ble_eq_true rfl) ?_
            refine or_iload_n E rfl dX6_whoNods_78 ?_
            refine or_i2d E dX6_whoNods_79 ?_
            refine or_dcmp E dX6_whoNods_80 ?_
            refine or_if_lt 86 E dX6_whoNods_81 rfl (fun q81 => ?_) (fun q81 => ?_)
            · replace hk := ite_p (P := fun r : Int32 => K (some (.int (r))) (S, I, V, z)) q81 hk
              refine or_iincN (c := 1) E dX6_whoNods_86 rfl rfl (by decide) ?_
              refine or_goto 33 E dX6_whoNods_89 rfl ?_
              refine or_lv _ ?_ (ih _ _ _ hV q5 (by omega) (by omega) hk)
              rfl
            · replace hk := ite_n (P := fun r : Int32 => K (some (.int (r))) (S, I, V, z)) q81 hk
              refine or_iload_n E rfl dX6_whoNods_84 ?_
              exact or_iret E F dX6_whoNods_85 (Nat.le_refl _) (Nat.le_refl _) hk
  dsimp only [K_whoNods] at hk
  refine or_aload_n E rfl dX6_whoNods_0 ?_
  refine ot_getI E fl_6_41 dX6_whoNods_1 h_a.1 rfl ?_
  refine or_iconst (v := -1) E rfl dX6_whoNods_4 ?_
  refine or_icmp_ne 10 E dX6_whoNods_5 rfl (fun q5 => ?_) (fun q5 => ?_)
  · replace hk := ite_n (P := fun r : Int32 => K (some (.int (r))) (S, I, V, z)) q5 hk
    refine or_aload_n E rfl dX6_whoNods_10 ?_
    refine ot_getC E fl_6_33 dX6_whoNods_11 h_a.1 rfl ?_
    refine or_aload_n E rfl dX6_whoNods_14 ?_
    refine ot_getI E fl_6_41 dX6_whoNods_15 h_a.1 rfl ?_
    refine or_top (nI_tn (ko_1 hV q5).1).symm ?_
    refine ot_aald (j := tn (I a 13)) E dX6_whoNods_18 h_a.2.2.2.1 rfl rfl (ko_1 hV q5).2 (Nat.le_of_ble_eq_true rfl) ?_
    refine or_astore_n E dX6_whoNods_19 (by decide) ?_
    refine or_aload_n E rfl dX6_whoNods_20 ?_
    refine or_cV0r (cK_nextPrice  h_a hV) E lk_6_173 dX6_whoNods_21 h_a.1 rfl rfl (by decide) (by decide) ⟨Nat.le_refl _, Nat.le_refl _⟩ (Nat.le_of_ble_eq_true rfl) ?_
    refine or_istore_n E dX6_whoNods_24 (by decide) ?_
    refine or_aload_n E rfl dX6_whoNods_25 ?_
    refine ot_getI E fl_6_47 dX6_whoNods_26 h_a.1 rfl ?_
    refine or_istore_n E dX6_whoNods_29 (by decide) ?_
    refine or_iconst (v := nI 0) E rfl dX6_whoNods_30 ?_
    refine or_istore E dX6_whoNods_31 (by decide) ?_
    refine or_lv _ ?_ (L33 7 _ _ _ hV q5 (by decide) (by decide) hk)
    rfl
  · replace hk := ite_p (P := fun r : Int32 => K (some (.int (r))) (S, I, V, z)) q5 hk
    refine or_iconst (v := -1) E rfl dX6_whoNods_8 ?_
    exact or_iret E F dX6_whoNods_9 (Nat.le_refl _) (Nat.le_refl _) hk
