theorem lk_7_33 : ow_lv RX7 33 yX7_begin cX7_begin 1 none 0 := ⟨ow_T_in 419 (by decide +kernel) (by decide +kernel), ow_T_in 421 (by decide +kernel) (by decide +kernel), ow_T_sel 1 (by decide +kernel) (by decide +kernel), ow_T_in 7 (by decide +kernel) (by decide +kernel), ow_T_in 422 (by decide +kernel) (by decide +kernel), ⟨by decide +kernel, by decide +kernel, by decide +kernel⟩⟩
theorem lk_7_36 : ow_lv RX7 36 yX6_beginEmpty cX6_beginEmpty 1 none 0 := ⟨ow_T_in 439 (by decide +kernel) (by decide +kernel), ow_T_in 440 (by decide +kernel) (by decide +kernel), ow_T_in 441 (by decide +kernel) (by decide +kernel), ow_T_in 2 (by decide +kernel) (by decide +kernel), ow_T_in 442 (by decide +kernel) (by decide +kernel), ⟨by decide +kernel, by decide +kernel, by decide +kernel⟩⟩
theorem lk_7_41 : ow_lv RX7 41 yX7_readMarket cX7_readMarket 2 (some .boolean) 1 := ⟨ow_T_in 447 (by decide +kernel) (by decide +kernel), ow_T_in 449 (by decide +kernel) (by decide +kernel), ow_T_sel 4 (by decide +kernel) (by decide +kernel), ow_T_in 7 (by decide +kernel) (by decide +kernel), ow_T_in 450 (by decide +kernel) (by decide +kernel), ⟨by decide +kernel, by decide +kernel, by decide +kernel⟩⟩
theorem lk_7_45 : ow_lv RX7 45 yX7_readBuyers cX7_readBuyers 3 (some .boolean) 1 := ⟨ow_T_in 477 (by decide +kernel) (by decide +kernel), ow_T_in 479 (by decide +kernel) (by decide +kernel), ow_T_sel 10 (by decide +kernel) (by decide +kernel), ow_T_in 7 (by decide +kernel) (by decide +kernel), ow_T_in 480 (by decide +kernel) (by decide +kernel), ⟨by decide +kernel, by decide +kernel, by decide +kernel⟩⟩
theorem lk_7_48 : ow_lv RX7 48 yX7_readBarrels cX7_readBarrels 3 (some .boolean) 1 := ⟨ow_T_in 494 (by decide +kernel) (by decide +kernel), ow_T_in 496 (by decide +kernel) (by decide +kernel), ow_T_sel 12 (by decide +kernel) (by decide +kernel), ow_T_in 7 (by decide +kernel) (by decide +kernel), ow_T_in 497 (by decide +kernel) (by decide +kernel), ⟨by decide +kernel, by decide +kernel, by decide +kernel⟩⟩
def Q_readSetup (p : Nat) (a : Nat) (I : ow_I) : Bool × ow_I :=
  lt (Q_begin p I) (fun (I1 : ow_I) => lt (K_beginEmpty a I1) (fun (I2 : ow_I) => lt (Q_readMarket p a I2) (fun (r3 : Bool × ow_I) => if r3.1 then lt (Q_readBuyers p a r3.2) (fun (r4 : Bool × ow_I) => if r4.1 then lt (Q_readBarrels p a r4.2) (fun (r5 : Bool × ow_I) => if r5.1 then if r5.2 (p + 1) 2 = 0 then (true, r5.2) else lt (Q_fail p (nI 1) r5.2) (fun (r6 : Bool × ow_I) => if r6.1 then (true, r6.2) else (false, r6.2)) else (false, r5.2)) else (false, r4.2)) else (false, r3.2))))
set_option maxRecDepth 100000 in
set_option maxHeartbeats 400000 in
theorem cQ_readSetup {Z : Nat → Nat} {S : Nat → Option ow_Sh} {I : ow_I} {V : Nat → Nat → Value} {z : Nat} {p : Nat} {a : Nat} (h_p : ps_S S p) (h_a : mk_S S a) (hi : in_R (I (p + 1))) (hd : a + 51 ≤ p ∨ p + 46 ≤ a) (hV : k_V a I) : ow_Cx Z yX7_readSetup cX7_readSetup 2 (some .boolean) 8 0 0 [.ref p, .ref a] (S, I, V, z) (ox_s S V z 0 (some (.int (bi ((Q_readSetup p a I).1)))) ((Q_readSetup p a I).2)) := by
  refine ow_Cx.off rfl (Nat.le_of_ble_eq_true rfl) (fun X K E G F hk => ?_)
  have E : ow_E X RX7 cX7_readSetup 2 (ow_rm 8 0 0) := E
  refine or_lv [(0, .ref p), (1, .ref a)] rfl ?_
  have hT : ps_T p a I I := ⟨hi, hV, fun _ _ _ => rfl⟩
  try dsimp only [Q_readSetup] at hk
  refine or_aload_n E rfl dX7_readSetup_0 ?_
  refine or_cV0v (cQ_begin  h_p hi) E lk_7_33 dX7_readSetup_1 h_p.1 rfl rfl (by decide) (by decide) ⟨(Nat.le_of_ble_eq_true rfl), (Nat.le_of_ble_eq_true rfl)⟩ (Nat.le_of_ble_eq_true rfl) ?_
  obtain ⟨I1, hI1⟩ : ∃ y_ : ow_I, y_ = Q_begin p I := ⟨_, rfl⟩
  replace hk := lt_k (P := fun r : Bool × ow_I => ox_e K S V z 0 (some (.int (bi ((r).1)))) ((r).2)) hI1 hk
  refine or_nmI hI1 ?_
  refine or_aload_n E rfl dX7_readSetup_4 ?_
  refine or_cV0v (cK_beginEmpty  h_a ) E lk_7_36 dX7_readSetup_5 h_a.1 rfl rfl (by decide) (by decide) ⟨(Nat.le_of_ble_eq_true rfl), (Nat.le_of_ble_eq_true rfl)⟩ (Nat.le_of_ble_eq_true rfl) ?_
  obtain ⟨I2, hI2⟩ : ∃ y_ : ow_I, y_ = K_beginEmpty a I1 := ⟨_, rfl⟩
  replace hk := lt_k (P := fun r : Bool × ow_I => ox_e K S V z 0 (some (.int (bi ((r).1)))) ((r).2)) hI2 hk
  refine or_nmI hI2 ?_
  refine or_aload_n E rfl dX7_readSetup_8 ?_
  refine or_aload_n E rfl dX7_readSetup_9 ?_
  refine or_fV1r (cQ_readMarket (Z := Z)  h_p h_a (by subst hI2 hI1; exact (pT_emp (pT_beg hT hd) hd).1) (by subst hI2 hI1; exact hd)) E G F lk_7_41 dX7_readSetup_10 h_p.1 rfl rfl (by decide) (by decide) ⟨(Nat.le_of_ble_eq_true rfl), (Nat.le_of_ble_eq_true rfl)⟩ (Nat.le_of_ble_eq_true rfl) (fun _ => ?_) (fun h => absurd h (Nat.lt_irrefl 0))
  obtain ⟨r3, hr3⟩ : ∃ y_ : Bool × ow_I, y_ = Q_readMarket p a I2 := ⟨_, rfl⟩
  replace hk := lt_k (P := fun r : Bool × ow_I => ox_e K S V z 0 (some (.int (bi ((r).1)))) ((r).2)) hr3 hk
  refine or_nmZ hr3 ?_
  refine or_if_eqZ 54 E dX7_readSetup_13 rfl (fun q13 => ?_) (fun q13 => ?_)
  · replace hk := ite_n (P := fun r : Bool × ow_I => ox_e K S V z 0 (some (.int (bi ((r).1)))) ((r).2)) (bz_neg q13) hk
    refine or_iconst (v := nI 0) E rfl dX7_readSetup_54 ?_
    try dsimp only at hk
    exact or_xr E F (fun X' E' F' => or_zret E' F' dX7_readSetup_55 (Nat.le_of_ble_eq_true rfl) (Nat.le_of_ble_eq_true rfl) (bi_nar false) (hk.1 rfl))
  · replace hk := ite_p (P := fun r : Bool × ow_I => ox_e K S V z 0 (some (.int (bi ((r).1)))) ((r).2)) q13 hk
    refine or_aload_n E rfl dX7_readSetup_16 ?_
    refine or_aload_n E rfl dX7_readSetup_17 ?_
    refine or_fV1r (cQ_readBuyers (Z := Z)  h_p h_a (by subst hr3 hI2 hI1; exact (pT_rm (pT_emp (pT_beg hT hd) hd) hd).1) (by subst hr3 hI2 hI1; exact hd) (by subst hr3 hI2 hI1; exact (pT_rm (pT_emp (pT_beg hT hd) hd) hd).2.1)) E G F lk_7_45 dX7_readSetup_18 h_p.1 rfl rfl (by decide) (by decide) ⟨(Nat.le_of_ble_eq_true rfl), (Nat.le_of_ble_eq_true rfl)⟩ (Nat.le_of_ble_eq_true rfl) (fun _ => ?_) (fun h => absurd h (Nat.lt_irrefl 0))
    obtain ⟨r4, hr4⟩ : ∃ y_ : Bool × ow_I, y_ = Q_readBuyers p a r3.2 := ⟨_, rfl⟩
    replace hk := lt_k (P := fun r : Bool × ow_I => ox_e K S V z 0 (some (.int (bi ((r).1)))) ((r).2)) hr4 hk
    refine or_nmZ hr4 ?_
    refine or_if_eqZ 54 E dX7_readSetup_21 rfl (fun q21 => ?_) (fun q21 => ?_)
    · replace hk := ite_n (P := fun r : Bool × ow_I => ox_e K S V z 0 (some (.int (bi ((r).1)))) ((r).2)) (bz_neg q21) hk
      refine or_iconst (v := nI 0) E rfl dX7_readSetup_54 ?_
      try dsimp only at hk
      exact or_xr E F (fun X' E' F' => or_zret E' F' dX7_readSetup_55 (Nat.le_of_ble_eq_true rfl) (Nat.le_of_ble_eq_true rfl) (bi_nar false) (hk.1 rfl))
    · replace hk := ite_p (P := fun r : Bool × ow_I => ox_e K S V z 0 (some (.int (bi ((r).1)))) ((r).2)) q21 hk
      refine or_aload_n E rfl dX7_readSetup_24 ?_
      refine or_aload_n E rfl dX7_readSetup_25 ?_
      refine or_fV1r (cQ_readBarrels (Z := Z)  h_p h_a (by subst hr4 hr3 hI2 hI1; exact (pT_rys (pT_rm (pT_emp (pT_beg hT hd) hd) hd) hd).1) (by subst hr4 hr3 hI2 hI1; exact hd) (by subst hr4 hr3 hI2 hI1; exact (pT_rys (pT_rm (pT_emp (pT_beg hT hd) hd) hd) hd).2.1)) E G F lk_7_48 dX7_readSetup_26 h_p.1 rfl rfl (by decide) (by decide) ⟨(Nat.le_of_ble_eq_true rfl), (Nat.le_of_ble_eq_true rfl)⟩ (Nat.le_of_ble_eq_true rfl) (fun _ => ?_) (fun h => absurd h (Nat.lt_irrefl 0))
      obtain ⟨r5, hr5⟩ : ∃ y_ : Bool × ow_I, y_ = Q_readBarrels p a r4.2 := ⟨_, rfl⟩
      replace hk := lt_k (P := fun r : Bool × ow_I => ox_e K S V z 0 (some (.int (bi ((r).1)))) ((r).2)) hr5 hk
      refine or_nmZ hr5 ?_
      refine or_if_eqZ 54 E dX7_readSetup_29 rfl (fun q29 => ?_) (fun q29 => ?_)
      · replace hk := ite_n (P := fun r : Bool × ow_I => ox_e K S V z 0 (some (.int (bi ((r).1)))) ((r).2)) (bz_neg q29) hk
        refine or_iconst (v := nI 0) E rfl dX7_readSetup_54 ?_
        try dsimp only at hk
        exact or_xr E F (fun X' E' F' => or_zret E' F' dX7_readSetup_55 (Nat.le_of_ble_eq_true rfl) (Nat.le_of_ble_eq_true rfl) (bi_nar false) (hk.1 rfl))
      · replace hk := ite_p (P := fun r : Bool × ow_I => ox_e K S V z 0 (some (.int (bi ((r).1)))) ((r).2)) q29 hk
        refine or_aload_n E rfl dX7_readSetup_32 ?_
        refine ot_getC E fl_7_12 dX7_readSetup_33 h_p.1 rfl ?_
        refine ot_getI E fl_7_51 dX7_readSetup_36 h_p.2.1.1 rfl ?_
        refine or_if_eq 50 E dX7_readSetup_39 rfl (fun q39 => ?_) (fun q39 => ?_)
        · replace hk := ite_p (P := fun r : Bool × ow_I => ox_e K S V z 0 (some (.int (bi ((r).1)))) ((r).2)) q39 hk
          refine or_iconst (v := nI 1) E rfl dX7_readSetup_50 ?_
          refine or_goto 55 E dX7_readSetup_51 rfl ?_
          try dsimp only at hk
          exact or_xr E F (fun X' E' F' => or_zret E' F' dX7_readSetup_55 (Nat.le_of_ble_eq_true rfl) (Nat.le_of_ble_eq_true rfl) (bi_nar true) (hk.1 rfl))
        · replace hk := ite_n (P := fun r : Bool × ow_I => ox_e K S V z 0 (some (.int (bi ((r).1)))) ((r).2)) q39 hk
          refine or_aload_n E rfl dX7_readSetup_42 ?_
          refine or_iconst (v := nI 1) E rfl dX7_readSetup_43 ?_
          refine or_cV1r (cQ_fail  h_p ) E lk_7_54 dX7_readSetup_44 h_p.1 rfl rfl (by decide) (by decide) ⟨(Nat.le_of_ble_eq_true rfl), (Nat.le_of_ble_eq_true rfl)⟩ (Nat.le_of_ble_eq_true rfl) ?_
          obtain ⟨r6, hr6⟩ : ∃ y_ : Bool × ow_I, y_ = Q_fail p (nI 1) r5.2 := ⟨_, rfl⟩
          replace hk := lt_k (P := fun r : Bool × ow_I => ox_e K S V z 0 (some (.int (bi ((r).1)))) ((r).2)) hr6 hk
          refine or_nmZ hr6 ?_
          refine or_if_eqZ 54 E dX7_readSetup_47 rfl (fun q47 => ?_) (fun q47 => ?_)
          · replace hk := ite_n (P := fun r : Bool × ow_I => ox_e K S V z 0 (some (.int (bi ((r).1)))) ((r).2)) (bz_neg q47) hk
            refine or_iconst (v := nI 0) E rfl dX7_readSetup_54 ?_
            try dsimp only at hk
            exact or_xr E F (fun X' E' F' => or_zret E' F' dX7_readSetup_55 (Nat.le_of_ble_eq_true rfl) (Nat.le_of_ble_eq_true rfl) (bi_nar false) (hk.1 rfl))
          · replace hk := ite_p (P := fun r : Bool × ow_I => ox_e K S V z 0 (some (.int (bi ((r).1)))) ((r).2)) q47 hk
            refine or_iconst (v := nI 1) E rfl dX7_readSetup_50 ?_
            refine or_goto 55 E dX7_readSetup_51 rfl ?_
            try dsimp only at hk
            exact or_xr E F (fun X' E' F' => or_zret E' F' dX7_readSetup_55 (Nat.le_of_ble_eq_true rfl) (Nat.le_of_ble_eq_true rfl) (bi_nar true) (hk.1 rfl))
