theorem fl_7_96 : ow_fl RX7 96 6 0 := ⟨_, rfl, by decide, ow_T_in 155 (by decide +kernel) (by decide +kernel), ow_ok6⟩
theorem fl_7_103 : ow_fl RX7 103 8 0 := ⟨_, rfl, by decide, ow_T_in 51 (by decide +kernel) (by decide +kernel), ow_ok8⟩
theorem fl_7_108 : ow_fl RX7 108 8 1 := ⟨_, rfl, by decide, ow_T_in 53 (by decide +kernel) (by decide +kernel), ow_ok8⟩
theorem fl_7_111 : ow_fl RX7 111 6 1 := ⟨_, rfl, by decide, ow_T_in 158 (by decide +kernel) (by decide +kernel), ow_ok6⟩
theorem fl_7_114 : ow_fl RX7 114 6 2 := ⟨_, rfl, by decide, ow_T_in 160 (by decide +kernel) (by decide +kernel), ow_ok6⟩
theorem fl_7_117 : ow_fl RX7 117 6 3 := ⟨_, rfl, by decide, ow_T_in 163 (by decide +kernel) (by decide +kernel), ow_ok6⟩
theorem lk_7_76 : ow_lv RX7 76 yX7_takeSemicolon cX7_takeSemicolon 1 (some .boolean) 0 := ⟨ow_T_in 473 (by decide +kernel) (by decide +kernel), ow_T_in 475 (by decide +kernel) (by decide +kernel), ow_T_sel 9 (by decide +kernel) (by decide +kernel), ow_T_in 7 (by decide +kernel) (by decide +kernel), ow_T_in 476 (by decide +kernel) (by decide +kernel), ⟨by decide +kernel, by decide +kernel, by decide +kernel⟩⟩
theorem lk_7_88 : ow_lv RX7 88 yX7_takeWord cX7_takeWord 2 (some .boolean) 1 := ⟨ow_T_in 452 (by decide +kernel) (by decide +kernel), ow_T_in 454 (by decide +kernel) (by decide +kernel), ow_T_sel 5 (by decide +kernel) (by decide +kernel), ow_T_in 7 (by decide +kernel) (by decide +kernel), ow_T_in 455 (by decide +kernel) (by decide +kernel), ⟨by decide +kernel, by decide +kernel, by decide +kernel⟩⟩
theorem lk_7_128 : ow_lv RX7 128 yX6_takeBuyer cX6_takeBuyer 4 none 3 := ⟨ow_T_in 486 (by decide +kernel) (by decide +kernel), ow_T_in 487 (by decide +kernel) (by decide +kernel), ow_T_in 488 (by decide +kernel) (by decide +kernel), ow_T_in 2 (by decide +kernel) (by decide +kernel), ow_T_in 489 (by decide +kernel) (by decide +kernel), ⟨by decide +kernel, by decide +kernel, by decide +kernel⟩⟩
def Q_readMarket (p : Nat) (a : Nat) (I : ow_I) : Bool × ow_I :=
  lt (Q_takeWord p 0 I) (fun (r1 : Bool × ow_I) => if r1.1 then lt (Q_takeNumber p (nI 5) (nI 60) r1.2) (fun (r2 : Bool × ow_I) => if r2.1 then lt (ow_u r2.2 (a + 1) 0 (r2.2 p 4)) (fun (I3 : ow_I) => lt (Q_takeNumber p (nI 1) (I3 (a + 1) 0) I3) (fun (r4 : Bool × ow_I) => if r4.1 then lt (ow_u r4.2 (a + 1) 1 (r4.2 p 4)) (fun (I5 : ow_I) => lt (Q_takeNumber p (nI 1) (nI 9) I5) (fun (r6 : Bool × ow_I) => if r6.1 then lt (ow_u r6.2 a 1 (r6.2 p 4)) (fun (I7 : ow_I) => lt (Q_takeNumber p (nI 1) (nI 50) I7) (fun (r8 : Bool × ow_I) => if r8.1 then lt (ow_u r8.2 a 2 (r8.2 p 4)) (fun (I9 : ow_I) => lt (Q_takeNumber p (nI 0) (nI 50) I9) (fun (r10 : Bool × ow_I) => if r10.1 then lt (ow_u r10.2 a 3 (r10.2 p 4)) (fun (I11 : ow_I) => lt (Q_takeSemicolon p I11) (fun (r12 : Bool × ow_I) => (r12.1, r12.2))) else (false, r10.2))) else (false, r8.2))) else (false, r6.2))) else (false, r4.2))) else (false, r2.2)) else (false, r1.2))
set_option maxRecDepth 100000 in
set_option maxHeartbeats 400000 in
theorem cQ_readMarket {Z : Nat → Nat} {S : Nat → Option ow_Sh} {I : ow_I} {V : Nat → Nat → Value} {z : Nat} {p : Nat} {a : Nat} (h_p : ps_S S p) (h_a : mk_S S a) (hi : in_R (I (p + 1))) (hd : a + 51 ≤ p ∨ p + 46 ≤ a) : ow_Cx Z yX7_readMarket cX7_readMarket 2 (some .boolean) 6 0 0 [.ref p, .ref a] (S, I, V, z) (ox_s S V z 0 (some (.int (bi ((Q_readMarket p a I).1)))) ((Q_readMarket p a I).2)) := by
  refine ow_Cx.off rfl (Nat.le_of_ble_eq_true rfl) (fun X K E G F hk => ?_)
  have E : ow_E X RX7 cX7_readMarket 2 (ow_rm 6 0 0) := E
  refine or_lv [(0, .ref p), (1, .ref a)] rfl ?_
  try dsimp only [Q_readMarket] at hk
  refine or_aload_n E rfl dX7_readMarket_0 ?_
  refine or_ldcS E (og_12 G 0 rfl) dX7_readMarket_1 ?_
  refine or_fV1r (cQ_takeWord (Z := Z) (w := 0) h_p (show (0 : Nat) < 10 by decide) (by repeat (first | with_reducible exact hi | with_reducible refine in_tn ?_ | with_reducible refine in_ts ?_ | with_reducible refine in_tw ?_ | rw [rr_u (by omega)]))) E G F lk_7_88 dX7_readMarket_3 h_p.1 rfl rfl (by decide) (by decide) ⟨(Nat.le_of_ble_eq_true rfl), (Nat.le_of_ble_eq_true rfl)⟩ (Nat.le_of_ble_eq_true rfl) (fun _ => ?_) (fun h => absurd h (Nat.lt_irrefl 0))
  obtain ⟨r1, hr1⟩ : ∃ y_ : Bool × ow_I, y_ = Q_takeWord p 0 I := ⟨_, rfl⟩
  replace hk := lt_k (P := fun r : Bool × ow_I => ox_e K S V z 0 (some (.int (bi ((r).1)))) ((r).2)) hr1 hk
  refine or_nmZ hr1 ?_
  refine or_if_eqZ 19 E dX7_readMarket_6 rfl (fun q6 => ?_) (fun q6 => ?_)
  · replace hk := ite_n (P := fun r : Bool × ow_I => ox_e K S V z 0 (some (.int (bi ((r).1)))) ((r).2)) (bz_neg q6) hk
    refine or_iconst (v := nI 0) E rfl dX7_readMarket_19 ?_
    try dsimp only at hk
    exact or_xr E F (fun X' E' F' => or_zret E' F' dX7_readMarket_20 (Nat.le_of_ble_eq_true rfl) (Nat.le_of_ble_eq_true rfl) (bi_nar false) (hk.1 rfl))
  · replace hk := ite_p (P := fun r : Bool × ow_I => ox_e K S V z 0 (some (.int (bi ((r).1)))) ((r).2)) q6 hk
    refine or_aload_n E rfl dX7_readMarket_9 ?_
    refine or_iconst (v := nI 5) E rfl dX7_readMarket_10 ?_
    refine or_bipush (v := nI 60) E rfl dX7_readMarket_11 ?_
    refine or_cV2r (cQ_takeNumber  h_p (by subst hr1; repeat (first | with_reducible exact hi | with_reducible refine in_tn ?_ | with_reducible refine in_ts ?_ | with_reducible refine in_tw ?_ | rw [rr_u (by omega)]))) E lk_7_92 dX7_readMarket_13 h_p.1 rfl rfl (by decide) (by decide) ⟨(Nat.le_of_ble_eq_true rfl), (Nat.le_of_ble_eq_true rfl)⟩ (Nat.le_of_ble_eq_true rfl) ?_
    obtain ⟨r2, hr2⟩ : ∃ y_ : Bool × ow_I, y_ = Q_takeNumber p (nI 5) (nI 60) r1.2 := ⟨_, rfl⟩
    replace hk := lt_k (P := fun r : Bool × ow_I => ox_e K S V z 0 (some (.int (bi ((r).1)))) ((r).2)) hr2 hk
    refine or_nmZ hr2 ?_
    refine or_if_neZ 21 E dX7_readMarket_16 rfl (fun q16 => ?_) (fun q16 => ?_)
    · replace hk := ite_p (P := fun r : Bool × ow_I => ox_e K S V z 0 (some (.int (bi ((r).1)))) ((r).2)) q16 hk
      refine or_aload_n E rfl dX7_readMarket_21 ?_
      refine ot_getC E fl_7_96 dX7_readMarket_22 h_a.1 rfl ?_
      refine or_aload_n E rfl dX7_readMarket_25 ?_
      refine ot_getI E fl_7_100 dX7_readMarket_26 h_p.1 rfl ?_
      refine ot_putI E fl_7_103 fw_8_0 dX7_readMarket_29 h_a.2.1 rfl ?_
      obtain ⟨I3, hI3⟩ : ∃ y_ : ow_I, y_ = ow_u r2.2 (a + 1) 0 (r2.2 p 4) := ⟨_, rfl⟩
      replace hk := lt_k (P := fun r : Bool × ow_I => ox_e K S V z 0 (some (.int (bi ((r).1)))) ((r).2)) hI3 hk
      refine or_nmI hI3 ?_
      refine or_aload_n E rfl dX7_readMarket_32 ?_
      refine or_iconst (v := nI 1) E rfl dX7_readMarket_33 ?_
      refine or_aload_n E rfl dX7_readMarket_34 ?_
      refine ot_getC E fl_7_96 dX7_readMarket_35 h_a.1 rfl ?_
      refine ot_getI E fl_7_103 dX7_readMarket_38 h_a.2.1 rfl ?_
      refine or_cV2r (cQ_takeNumber  h_p (by subst hI3 hr2 hr1; repeat (first | with_reducible exact hi | with_reducible refine in_tn ?_ | with_reducible refine in_ts ?_ | with_reducible refine in_tw ?_ | rw [rr_u (by omega)]))) E lk_7_92 dX7_readMarket_41 h_p.1 rfl rfl (by decide) (by decide) ⟨(Nat.le_of_ble_eq_true rfl), (Nat.le_of_ble_eq_true rfl)⟩ (Nat.le_of_ble_eq_true rfl) ?_
      obtain ⟨r4, hr4⟩ : ∃ y_ : Bool × ow_I, y_ = Q_takeNumber p (nI 1) (I3 (a + 1) 0) I3 := ⟨_, rfl⟩
      replace hk := lt_k (P := fun r : Bool × ow_I => ox_e K S V z 0 (some (.int (bi ((r).1)))) ((r).2)) hr4 hk
      refine or_nmZ hr4 ?_
      refine or_if_neZ 49 E dX7_readMarket_44 rfl (fun q44 => ?_) (fun q44 => ?_)
      · replace hk := ite_p (P := fun r : Bool × ow_I => ox_e K S V z 0 (some (.int (bi ((r).1)))) ((r).2)) q44 hk
        refine or_aload_n E rfl dX7_readMarket_49 ?_
        refine ot_getC E fl_7_96 dX7_readMarket_50 h_a.1 rfl ?_
        refine or_aload_n E rfl dX7_readMarket_53 ?_
        refine ot_getI E fl_7_100 dX7_readMarket_54 h_p.1 rfl ?_
        refine ot_putI E fl_7_108 fw_8_1 dX7_readMarket_57 h_a.2.1 rfl ?_
        obtain ⟨I5, hI5⟩ : ∃ y_ : ow_I, y_ = ow_u r4.2 (a + 1) 1 (r4.2 p 4) := ⟨_, rfl⟩
        replace hk := lt_k (P := fun r : Bool × ow_I => ox_e K S V z 0 (some (.int (bi ((r).1)))) ((r).2)) hI5 hk
        refine or_nmI hI5 ?_
        refine or_aload_n E rfl dX7_readMarket_60 ?_
        refine or_iconst (v := nI 1) E rfl dX7_readMarket_61 ?_
        refine or_bipush (v := nI 9) E rfl dX7_readMarket_62 ?_
        refine or_cV2r (cQ_takeNumber  h_p (by subst hI5 hr4 hI3 hr2 hr1; repeat (first | with_reducible exact hi | with_reducible refine in_tn ?_ | with_reducible refine in_ts ?_ | with_reducible refine in_tw ?_ | rw [rr_u (by omega)]))) E lk_7_92 dX7_readMarket_64 h_p.1 rfl rfl (by decide) (by decide) ⟨(Nat.le_of_ble_eq_true rfl), (Nat.le_of_ble_eq_true rfl)⟩ (Nat.le_of_ble_eq_true rfl) ?_
        obtain ⟨r6, hr6⟩ : ∃ y_ : Bool × ow_I, y_ = Q_takeNumber p (nI 1) (nI 9) I5 := ⟨_, rfl⟩
        replace hk := lt_k (P := fun r : Bool × ow_I => ox_e K S V z 0 (some (.int (bi ((r).1)))) ((r).2)) hr6 hk
        refine or_nmZ hr6 ?_
        refine or_if_neZ 72 E dX7_readMarket_67 rfl (fun q67 => ?_) (fun q67 => ?_)
        · replace hk := ite_p (P := fun r : Bool × ow_I => ox_e K S V z 0 (some (.int (bi ((r).1)))) ((r).2)) q67 hk
          refine or_aload_n E rfl dX7_readMarket_72 ?_
          refine or_aload_n E rfl dX7_readMarket_73 ?_
          refine ot_getI E fl_7_100 dX7_readMarket_74 h_p.1 rfl ?_
          refine ot_putI E fl_7_111 fw_6_1 dX7_readMarket_77 h_a.1 rfl ?_
          obtain ⟨I7, hI7⟩ : ∃ y_ : ow_I, y_ = ow_u r6.2 a 1 (r6.2 p 4) := ⟨_, rfl⟩
          replace hk := lt_k (P := fun r : Bool × ow_I => ox_e K S V z 0 (some (.int (bi ((r).1)))) ((r).2)) hI7 hk
          refine or_nmI hI7 ?_
          refine or_aload_n E rfl dX7_readMarket_80 ?_
          refine or_iconst (v := nI 1) E rfl dX7_readMarket_81 ?_
          refine or_bipush (v := nI 50) E rfl dX7_readMarket_82 ?_
          refine or_cV2r (cQ_takeNumber  h_p (by subst hI7 hr6 hI5 hr4 hI3 hr2 hr1; repeat (first | with_reducible exact hi | with_reducible refine in_tn ?_ | with_reducible refine in_ts ?_ | with_reducible refine in_tw ?_ | rw [rr_u (by omega)]))) E lk_7_92 dX7_readMarket_84 h_p.1 rfl rfl (by decide) (by decide) ⟨(Nat.le_of_ble_eq_true rfl), (Nat.le_of_ble_eq_true rfl)⟩ (Nat.le_of_ble_eq_true rfl) ?_
          obtain ⟨r8, hr8⟩ : ∃ y_ : Bool × ow_I, y_ = Q_takeNumber p (nI 1) (nI 50) I7 := ⟨_, rfl⟩
          replace hk := lt_k (P := fun r : Bool × ow_I => ox_e K S V z 0 (some (.int (bi ((r).1)))) ((r).2)) hr8 hk
          refine or_nmZ hr8 ?_
          refine or_if_neZ 92 E dX7_readMarket_87 rfl (fun q87 => ?_) (fun q87 => ?_)
          · replace hk := ite_p (P := fun r : Bool × ow_I => ox_e K S V z 0 (some (.int (bi ((r).1)))) ((r).2)) q87 hk
            refine or_aload_n E rfl dX7_readMarket_92 ?_
            refine or_aload_n E rfl dX7_readMarket_93 ?_
            refine ot_getI E fl_7_100 dX7_readMarket_94 h_p.1 rfl ?_
            refine ot_putI E fl_7_114 fw_6_2 dX7_readMarket_97 h_a.1 rfl ?_
            obtain ⟨I9, hI9⟩ : ∃ y_ : ow_I, y_ = ow_u r8.2 a 2 (r8.2 p 4) := ⟨_, rfl⟩
            replace hk := lt_k (P := fun r : Bool × ow_I => ox_e K S V z 0 (some (.int (bi ((r).1)))) ((r).2)) hI9 hk
            refine or_nmI hI9 ?_
            refine or_aload_n E rfl dX7_readMarket_100 ?_
            refine or_iconst (v := nI 0) E rfl dX7_readMarket_101 ?_
            refine or_bipush (v := nI 50) E rfl dX7_readMarket_102 ?_
            refine or_cV2r (cQ_takeNumber  h_p (by subst hI9 hr8 hI7 hr6 hI5 hr4 hI3 hr2 hr1; repeat (first | with_reducible exact hi | with_reducible refine in_tn ?_ | with_reducible refine in_ts ?_ | with_reducible refine in_tw ?_ | rw [rr_u (by omega)]))) E lk_7_92 dX7_readMarket_104 h_p.1 rfl rfl (by decide) (by decide) ⟨(Nat.le_of_ble_eq_true rfl), (Nat.le_of_ble_eq_true rfl)⟩ (Nat.le_of_ble_eq_true rfl) ?_
            obtain ⟨r10, hr10⟩ : ∃ y_ : Bool × ow_I, y_ = Q_takeNumber p (nI 0) (nI 50) I9 := ⟨_, rfl⟩
            replace hk := lt_k (P := fun r : Bool × ow_I => ox_e K S V z 0 (some (.int (bi ((r).1)))) ((r).2)) hr10 hk
            refine or_nmZ hr10 ?_
            refine or_if_neZ 112 E dX7_readMarket_107 rfl (fun q107 => ?_) (fun q107 => ?_)
            · replace hk := ite_p (P := fun r : Bool × ow_I => ox_e K S V z 0 (some (.int (bi ((r).1)))) ((r).2)) q107 hk
              refine or_aload_n E rfl dX7_readMarket_112 ?_
              refine or_aload_n E rfl dX7_readMarket_113 ?_
              refine ot_getI E fl_7_100 dX7_readMarket_114 h_p.1 rfl ?_
              refine ot_putI E fl_7_117 fw_6_3 dX7_readMarket_117 h_a.1 rfl ?_
              obtain ⟨I11, hI11⟩ : ∃ y_ : ow_I, y_ = ow_u r10.2 a 3 (r10.2 p 4) := ⟨_, rfl⟩
              replace hk := lt_k (P := fun r : Bool × ow_I => ox_e K S V z 0 (some (.int (bi ((r).1)))) ((r).2)) hI11 hk
              refine or_nmI hI11 ?_
              refine or_aload_n E rfl dX7_readMarket_120 ?_
              refine or_cV0r (cQ_takeSemicolon  h_p (by subst hI11 hr10 hI9 hr8 hI7 hr6 hI5 hr4 hI3 hr2 hr1; repeat (first | with_reducible exact hi | with_reducible refine in_tn ?_ | with_reducible refine in_ts ?_ | with_reducible refine in_tw ?_ | rw [rr_u (by omega)]))) E lk_7_76 dX7_readMarket_121 h_p.1 rfl rfl (by decide) (by decide) ⟨(Nat.le_of_ble_eq_true rfl), (Nat.le_of_ble_eq_true rfl)⟩ (Nat.le_of_ble_eq_true rfl) ?_
              obtain ⟨r12, hr12⟩ : ∃ y_ : Bool × ow_I, y_ = Q_takeSemicolon p I11 := ⟨_, rfl⟩
              replace hk := lt_k (P := fun r : Bool × ow_I => ox_e K S V z 0 (some (.int (bi ((r).1)))) ((r).2)) hr12 hk
              refine or_nmZ hr12 ?_
              try dsimp only at hk
              exact or_xr E F (fun X' E' F' => or_zret E' F' dX7_readMarket_124 (Nat.le_of_ble_eq_true rfl) (Nat.le_of_ble_eq_true rfl) (bi_nar _) (hk.1 rfl))
            · replace hk := ite_n (P := fun r : Bool × ow_I => ox_e K S V z 0 (some (.int (bi ((r).1)))) ((r).2)) (bz_neg q107) hk
              refine or_iconst (v := nI 0) E rfl dX7_readMarket_110 ?_
              try dsimp only at hk
              exact or_xr E F (fun X' E' F' => or_zret E' F' dX7_readMarket_111 (Nat.le_of_ble_eq_true rfl) (Nat.le_of_ble_eq_true rfl) (bi_nar false) (hk.1 rfl))
          · replace hk := ite_n (P := fun r : Bool × ow_I => ox_e K S V z 0 (some (.int (bi ((r).1)))) ((r).2)) (bz_neg q87) hk
            refine or_iconst (v := nI 0) E rfl dX7_readMarket_90 ?_
            try dsimp only at hk
            exact or_xr E F (fun X' E' F' => or_zret E' F' dX7_readMarket_91 (Nat.le_of_ble_eq_true rfl) (Nat.le_of_ble_eq_true rfl) (bi_nar false) (hk.1 rfl))
        · replace hk := ite_n (P := fun r : Bool × ow_I => ox_e K S V z 0 (some (.int (bi ((r).1)))) ((r).2)) (bz_neg q67) hk
          refine or_iconst (v := nI 0) E rfl dX7_readMarket_70 ?_
          try dsimp only at hk
          exact or_xr E F (fun X' E' F' => or_zret E' F' dX7_readMarket_71 (Nat.le_of_ble_eq_true rfl) (Nat.le_of_ble_eq_true rfl) (bi_nar false) (hk.1 rfl))
      · replace hk := ite_n (P := fun r : Bool × ow_I => ox_e K S V z 0 (some (.int (bi ((r).1)))) ((r).2)) (bz_neg q44) hk
        refine or_iconst (v := nI 0) E rfl dX7_readMarket_47 ?_
        try dsimp only at hk
        exact or_xr E F (fun X' E' F' => or_zret E' F' dX7_readMarket_48 (Nat.le_of_ble_eq_true rfl) (Nat.le_of_ble_eq_true rfl) (bi_nar false) (hk.1 rfl))
    · replace hk := ite_n (P := fun r : Bool × ow_I => ox_e K S V z 0 (some (.int (bi ((r).1)))) ((r).2)) (bz_neg q16) hk
      refine or_iconst (v := nI 0) E rfl dX7_readMarket_19 ?_
      try dsimp only at hk
      exact or_xr E F (fun X' E' F' => or_zret E' F' dX7_readMarket_20 (Nat.le_of_ble_eq_true rfl) (Nat.le_of_ble_eq_true rfl) (bi_nar false) (hk.1 rfl))
def Q_readBuyer (p : Nat) (a : Nat) (I : ow_I) : Bool × ow_I :=
  lt (Q_takeWord p 1 I) (fun (r1 : Bool × ow_I) => if r1.1 then lt (Q_takeNumber p (nI 0) (nI 9999) r1.2) (fun (r2 : Bool × ow_I) => if r2.1 then lt (Q_takeNumber p (nI 0) (nI 4) r2.2) (fun (r3 : Bool × ow_I) => if r3.1 then lt (Q_takeNumber p (nI 1) (nI 999) r3.2) (fun (r4 : Bool × ow_I) => if r4.1 then lt (K_takeBuyer a (r2.2 p 4) (r3.2 p 4) (r4.2 p 4) r4.2) (fun (I5 : ow_I) => lt (Q_takeSemicolon p I5) (fun (r6 : Bool × ow_I) => (r6.1, r6.2))) else (false, r4.2)) else (false, r3.2)) else (false, r2.2)) else (false, r1.2))
set_option maxRecDepth 100000 in
set_option maxHeartbeats 400000 in
theorem cQ_readBuyer {Z : Nat → Nat} {S : Nat → Option ow_Sh} {I : ow_I} {V : Nat → Nat → Value} {z : Nat} {p : Nat} {a : Nat} (h_p : ps_S S p) (h_a : mk_S S a) (hi : in_R (I (p + 1))) (hd : a + 51 ≤ p ∨ p + 46 ≤ a) (hV : k_V a I) : ow_Cx Z yX7_readBuyer cX7_readBuyer 4 (some .boolean) 6 0 0 [.ref p, .ref a] (S, I, V, z) (ox_s S V z 0 (some (.int (bi ((Q_readBuyer p a I).1)))) ((Q_readBuyer p a I).2)) := by
  refine ow_Cx.off rfl (Nat.le_of_ble_eq_true rfl) (fun X K E G F hk => ?_)
  have E : ow_E X RX7 cX7_readBuyer 4 (ow_rm 6 0 0) := E
  refine or_lv [(0, .ref p), (1, .ref a)] rfl ?_
  try dsimp only [Q_readBuyer] at hk
  refine or_aload_n E rfl dX7_readBuyer_0 ?_
  refine or_ldcS E (og_12 G 1 rfl) dX7_readBuyer_1 ?_
  refine or_fV1r (cQ_takeWord (Z := Z) (w := 1) h_p (show (1 : Nat) < 10 by decide) (by repeat (first | with_reducible exact hi | with_reducible refine in_tn ?_ | with_reducible refine in_ts ?_ | with_reducible refine in_tw ?_ | rw [rr_u (by omega)]))) E G F lk_7_88 dX7_readBuyer_3 h_p.1 rfl rfl (by decide) (by decide) ⟨(Nat.le_of_ble_eq_true rfl), (Nat.le_of_ble_eq_true rfl)⟩ (Nat.le_of_ble_eq_true rfl) (fun _ => ?_) (fun h => absurd h (Nat.lt_irrefl 0))
  obtain ⟨r1, hr1⟩ : ∃ y_ : Bool × ow_I, y_ = Q_takeWord p 1 I := ⟨_, rfl⟩
  replace hk := lt_k (P := fun r : Bool × ow_I => ox_e K S V z 0 (some (.int (bi ((r).1)))) ((r).2)) hr1 hk
  refine or_nmZ hr1 ?_
  refine or_if_eqZ 20 E dX7_readBuyer_6 rfl (fun q6 => ?_) (fun q6 => ?_)
  · replace hk := ite_n (P := fun r : Bool × ow_I => ox_e K S V z 0 (some (.int (bi ((r).1)))) ((r).2)) (bz_neg q6) hk
    refine or_iconst (v := nI 0) E rfl dX7_readBuyer_20 ?_
    try dsimp only at hk
    exact or_xr E F (fun X' E' F' => or_zret E' F' dX7_readBuyer_21 (Nat.le_of_ble_eq_true rfl) (Nat.le_of_ble_eq_true rfl) (bi_nar false) (hk.1 rfl))
  · replace hk := ite_p (P := fun r : Bool × ow_I => ox_e K S V z 0 (some (.int (bi ((r).1)))) ((r).2)) q6 hk
    refine or_aload_n E rfl dX7_readBuyer_9 ?_
    refine or_iconst (v := nI 0) E rfl dX7_readBuyer_10 ?_
    refine or_sipush (v := nI 9999) E rfl dX7_readBuyer_11 ?_
    refine or_cV2r (cQ_takeNumber  h_p (by subst hr1; repeat (first | with_reducible exact hi | with_reducible refine in_tn ?_ | with_reducible refine in_ts ?_ | with_reducible refine in_tw ?_ | rw [rr_u (by omega)]))) E lk_7_92 dX7_readBuyer_14 h_p.1 rfl rfl (by decide) (by decide) ⟨(Nat.le_of_ble_eq_true rfl), (Nat.le_of_ble_eq_true rfl)⟩ (Nat.le_of_ble_eq_true rfl) ?_
    obtain ⟨r2, hr2⟩ : ∃ y_ : Bool × ow_I, y_ = Q_takeNumber p (nI 0) (nI 9999) r1.2 := ⟨_, rfl⟩
    replace hk := lt_k (P := fun r : Bool × ow_I => ox_e K S V z 0 (some (.int (bi ((r).1)))) ((r).2)) hr2 hk
    refine or_nmZ hr2 ?_
    refine or_if_neZ 22 E dX7_readBuyer_17 rfl (fun q17 => ?_) (fun q17 => ?_)
    · replace hk := ite_p (P := fun r : Bool × ow_I => ox_e K S V z 0 (some (.int (bi ((r).1)))) ((r).2)) q17 hk
      refine or_aload_n E rfl dX7_readBuyer_22 ?_
      refine ot_getI E fl_7_100 dX7_readBuyer_23 h_p.1 rfl ?_
      refine or_istore_n E dX7_readBuyer_26 (by decide) ?_
      refine or_aload_n E rfl dX7_readBuyer_27 ?_
      refine or_iconst (v := nI 0) E rfl dX7_readBuyer_28 ?_
      refine or_iconst (v := nI 4) E rfl dX7_readBuyer_29 ?_
      refine or_cV2r (cQ_takeNumber  h_p (by subst hr2 hr1; repeat (first | with_reducible exact hi | with_reducible refine in_tn ?_ | with_reducible refine in_ts ?_ | with_reducible refine in_tw ?_ | rw [rr_u (by omega)]))) E lk_7_92 dX7_readBuyer_30 h_p.1 rfl rfl (by decide) (by decide) ⟨(Nat.le_of_ble_eq_true rfl), (Nat.le_of_ble_eq_true rfl)⟩ (Nat.le_of_ble_eq_true rfl) ?_
      obtain ⟨r3, hr3⟩ : ∃ y_ : Bool × ow_I, y_ = Q_takeNumber p (nI 0) (nI 4) r2.2 := ⟨_, rfl⟩
      replace hk := lt_k (P := fun r : Bool × ow_I => ox_e K S V z 0 (some (.int (bi ((r).1)))) ((r).2)) hr3 hk
      refine or_nmZ hr3 ?_
      refine or_if_neZ 38 E dX7_readBuyer_33 rfl (fun q33 => ?_) (fun q33 => ?_)
      · replace hk := ite_p (P := fun r : Bool × ow_I => ox_e K S V z 0 (some (.int (bi ((r).1)))) ((r).2)) q33 hk
        refine or_aload_n E rfl dX7_readBuyer_38 ?_
        refine ot_getI E fl_7_100 dX7_readBuyer_39 h_p.1 rfl ?_
        refine or_istore_n E dX7_readBuyer_42 (by decide) ?_
        refine or_aload_n E rfl dX7_readBuyer_43 ?_
        refine or_iconst (v := nI 1) E rfl dX7_readBuyer_44 ?_
        refine or_sipush (v := nI 999) E rfl dX7_readBuyer_45 ?_
        refine or_cV2r (cQ_takeNumber  h_p (by subst hr3 hr2 hr1; repeat (first | with_reducible exact hi | with_reducible refine in_tn ?_ | with_reducible refine in_ts ?_ | with_reducible refine in_tw ?_ | rw [rr_u (by omega)]))) E lk_7_92 dX7_readBuyer_48 h_p.1 rfl rfl (by decide) (by decide) ⟨(Nat.le_of_ble_eq_true rfl), (Nat.le_of_ble_eq_true rfl)⟩ (Nat.le_of_ble_eq_true rfl) ?_
        obtain ⟨r4, hr4⟩ : ∃ y_ : Bool × ow_I, y_ = Q_takeNumber p (nI 1) (nI 999) r3.2 := ⟨_, rfl⟩
        replace hk := lt_k (P := fun r : Bool × ow_I => ox_e K S V z 0 (some (.int (bi ((r).1)))) ((r).2)) hr4 hk
        refine or_nmZ hr4 ?_
        refine or_if_neZ 56 E dX7_readBuyer_51 rfl (fun q51 => ?_) (fun q51 => ?_)
        · replace hk := ite_p (P := fun r : Bool × ow_I => ox_e K S V z 0 (some (.int (bi ((r).1)))) ((r).2)) q51 hk
          refine or_aload_n E rfl dX7_readBuyer_56 ?_
          refine or_iload_n E rfl dX7_readBuyer_57 ?_
          refine or_iload_n E rfl dX7_readBuyer_58 ?_
          refine or_aload_n E rfl dX7_readBuyer_59 ?_
          refine ot_getI E fl_7_100 dX7_readBuyer_60 h_p.1 rfl ?_
          refine or_cV3v (cK_takeBuyer  h_a (by subst hr4 hr3 hr2 hr1; repeat (first | with_reducible exact hV | with_reducible refine kV_tbuy ?_ | with_reducible refine kV_a ?_ (by decide) | with_reducible refine kV_row ?_ (by omega) (by omega) (Or.inl fun i _ => by omega) | with_reducible refine kV_tn ?_ (by omega) | with_reducible refine kV_tw ?_ (by omega)))) E lk_7_128 dX7_readBuyer_63 h_a.1 rfl rfl (by decide) (by decide) ⟨(Nat.le_of_ble_eq_true rfl), (Nat.le_of_ble_eq_true rfl)⟩ (Nat.le_of_ble_eq_true rfl) ?_
          obtain ⟨I5, hI5⟩ : ∃ y_ : ow_I, y_ = K_takeBuyer a (r2.2 p 4) (r3.2 p 4) (r4.2 p 4) r4.2 := ⟨_, rfl⟩
          replace hk := lt_k (P := fun r : Bool × ow_I => ox_e K S V z 0 (some (.int (bi ((r).1)))) ((r).2)) hI5 hk
          refine or_nmI hI5 ?_
          refine or_aload_n E rfl dX7_readBuyer_66 ?_
          refine or_cV0r (cQ_takeSemicolon  h_p (by subst hI5 hr4 hr3 hr2 hr1; exact (in_tbuy (q := 0) (by repeat (first | with_reducible exact hi | with_reducible refine in_tn ?_ | with_reducible refine in_ts ?_ | with_reducible refine in_tw ?_ | rw [rr_u (by omega)])) hd (kV_get8 (by repeat (first | with_reducible exact hV | with_reducible refine kV_tbuy ?_ | with_reducible refine kV_a ?_ (by decide) | with_reducible refine kV_row ?_ (by omega) (by omega) (Or.inl fun i _ => by omega) | with_reducible refine kV_tn ?_ (by omega) | with_reducible refine kV_tw ?_ (by omega))))))) E lk_7_76 dX7_readBuyer_67 h_p.1 rfl rfl (by decide) (by decide) ⟨(Nat.le_of_ble_eq_true rfl), (Nat.le_of_ble_eq_true rfl)⟩ (Nat.le_of_ble_eq_true rfl) ?_
          obtain ⟨r6, hr6⟩ : ∃ y_ : Bool × ow_I, y_ = Q_takeSemicolon p I5 := ⟨_, rfl⟩
          replace hk := lt_k (P := fun r : Bool × ow_I => ox_e K S V z 0 (some (.int (bi ((r).1)))) ((r).2)) hr6 hk
          refine or_nmZ hr6 ?_
          try dsimp only at hk
          exact or_xr E F (fun X' E' F' => or_zret E' F' dX7_readBuyer_70 (Nat.le_of_ble_eq_true rfl) (Nat.le_of_ble_eq_true rfl) (bi_nar _) (hk.1 rfl))
        · replace hk := ite_n (P := fun r : Bool × ow_I => ox_e K S V z 0 (some (.int (bi ((r).1)))) ((r).2)) (bz_neg q51) hk
          refine or_iconst (v := nI 0) E rfl dX7_readBuyer_54 ?_
          try dsimp only at hk
          exact or_xr E F (fun X' E' F' => or_zret E' F' dX7_readBuyer_55 (Nat.le_of_ble_eq_true rfl) (Nat.le_of_ble_eq_true rfl) (bi_nar false) (hk.1 rfl))
      · replace hk := ite_n (P := fun r : Bool × ow_I => ox_e K S V z 0 (some (.int (bi ((r).1)))) ((r).2)) (bz_neg q33) hk
        refine or_iconst (v := nI 0) E rfl dX7_readBuyer_36 ?_
        try dsimp only at hk
        exact or_xr E F (fun X' E' F' => or_zret E' F' dX7_readBuyer_37 (Nat.le_of_ble_eq_true rfl) (Nat.le_of_ble_eq_true rfl) (bi_nar false) (hk.1 rfl))
    · replace hk := ite_n (P := fun r : Bool × ow_I => ox_e K S V z 0 (some (.int (bi ((r).1)))) ((r).2)) (bz_neg q17) hk
      refine or_iconst (v := nI 0) E rfl dX7_readBuyer_20 ?_
      try dsimp only at hk
      exact or_xr E F (fun X' E' F' => or_zret E' F' dX7_readBuyer_21 (Nat.le_of_ble_eq_true rfl) (Nat.le_of_ble_eq_true rfl) (bi_nar false) (hk.1 rfl))
