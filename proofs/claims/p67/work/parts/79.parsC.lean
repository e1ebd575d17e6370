theorem fl_7_138 : ow_fl RX7 138 3 1 := ⟨_, rfl, by decide, ow_T_in 290 (by decide +kernel) (by decide +kernel), ow_ok3⟩
theorem fl_7_141 : ow_fl RX7 141 3 3 := ⟨_, rfl, by decide, ow_T_in 292 (by decide +kernel) (by decide +kernel), ow_ok3⟩
theorem fl_7_145 : ow_fl RX7 145 3 4 := ⟨_, rfl, by decide, ow_T_in 293 (by decide +kernel) (by decide +kernel), ow_ok3⟩
theorem fw_3_1 : ∃ r : vw_C, ow_cl[3]? = some r ∧ (r.2.1 1).2.2.2 = false ∧ parseFieldDescriptor (r.2.1 1).2.2.1 = some .int := ⟨_, rfl, rfl, by decide +kernel⟩
theorem fw_3_4 : ∃ r : vw_C, ow_cl[3]? = some r ∧ (r.2.1 4).2.2.2 = false ∧ parseFieldDescriptor (r.2.1 4).2.2.1 = some .int := ⟨_, rfl, rfl, by decide +kernel⟩
theorem lk_7_92 : ow_lv RX7 92 yX7_takeNumber cX7_takeNumber 3 (some .boolean) 2 := ⟨ow_T_in 465 (by decide +kernel) (by decide +kernel), ow_T_in 467 (by decide +kernel) (by decide +kernel), ow_T_sel 7 (by decide +kernel) (by decide +kernel), ow_T_in 7 (by decide +kernel) (by decide +kernel), ow_T_in 468 (by decide +kernel) (by decide +kernel), ⟨by decide +kernel, by decide +kernel, by decide +kernel⟩⟩
def Q_readBarrel_L23 (p : Nat) (c : Nat) : Nat → ow_I → Nat → Bool × ow_I
  | 0, I, _ => (false, I)
  | n + 1, I, i => if 9 < i then (true, I) else if i = 0 then if i = 9 then if Q_isInRange p (nI 10) (nI 150) I then lt (Q_fail p (nI 3) I) (fun (r7 : Bool × ow_I) => (r7.1, r7.2)) else lt (Q_fail p (nI 2) I) (fun (r6 : Bool × ow_I) => (r6.1, r6.2)) else lt (Q_takeNumber p (nI 10) (nI 150) I) (fun (r3 : Bool × ow_I) => if r3.1 then lt (ow_u r3.2 (c + 1) i (r3.2 p 4)) (fun (I4 : ow_I) => lt (ow_u I4 c 4 (nI (i + 1))) (fun (I5 : ow_I) => Q_readBarrel_L23 p c n I5 (i + 1))) else (false, r3.2)) else if I (p + 1) 2 = nI 2 then if i = 9 then if Q_isInRange p (nI 10) (nI 150) I then lt (Q_fail p (nI 3) I) (fun (r12 : Bool × ow_I) => (r12.1, r12.2)) else lt (Q_fail p (nI 2) I) (fun (r11 : Bool × ow_I) => (r11.1, r11.2)) else lt (Q_takeNumber p (nI 10) (nI 150) I) (fun (r8 : Bool × ow_I) => if r8.1 then lt (ow_u r8.2 (c + 1) i (r8.2 p 4)) (fun (I9 : ow_I) => lt (ow_u I9 c 4 (nI (i + 1))) (fun (I10 : ow_I) => Q_readBarrel_L23 p c n I10 (i + 1))) else (false, r8.2)) else (true, I)
def Q_readBarrel (p : Nat) (c : Nat) (I : ow_I) : Bool × ow_I :=
  lt (Q_takeNumber p (nI 1) (nI 999) I) (fun (r1 : Bool × ow_I) => if r1.1 then lt (ow_u r1.2 c 1 (r1.2 p 4)) (fun (I2 : ow_I) => Q_readBarrel_L23 p c 11 I2 0) else (false, r1.2))
set_option maxRecDepth 100000 in
set_option maxHeartbeats 400000 in
theorem cQ_readBarrel {S : Nat → Option ow_Sh} {I : ow_I} {V : Nat → Nat → Value} {z : Nat} {p : Nat} {c : Nat} (h_p : ps_S S p) (h_c : cm_S S c) (hi : in_R (I (p + 1))) (hc : c ≠ p + 1 ∧ c + 1 ≠ p + 1) : ow_Cf yX7_readBarrel cX7_readBarrel 3 (some .boolean) 3 [.ref p, .ref c] (S, I, V, z) (some (.int (bi ((Q_readBarrel p c I).1)))) (S, (Q_readBarrel p c I).2, V, z) := by
  refine ow_Cf.of rfl (Nat.le_of_ble_eq_true rfl) (fun X K E F hk => ?_)
  have E : ow_E X RX7 cX7_readBarrel 3 (ow_rm 3 0 0) := E
  refine or_lv [(0, .ref p), (1, .ref c)] rfl ?_
  have L23 : ∀ (n : Nat) (I : ow_I) (i : Nat) (hi : in_R (I (p + 1))) (hc : c ≠ p + 1 ∧ c + 1 ≠ p + 1) (hn : i ≤ 10) (hm : 10 - i < n) (hk : K (some (.int (bi ((Q_readBarrel_L23 p c n I i).1)))) (S, (Q_readBarrel_L23 p c n I i).2, V, z)), ow_W X 0 0 (S, I, V, z) 23 [(0, .ref p), (1, .ref c), (2, .int (nI i))] [] := by
    intro n
    induction n with
    | zero => intro I i hi hc hn hm; omega
    | succ n ih =>
      intro I i hi hc hn hm hk
      dsimp only [Q_readBarrel_L23] at hk
      refine or_iload_n E rfl dX7_readBarrel_23 ?_
      refine or_bipush (v := nI 9) E rfl dX7_readBarrel_24 ?_
      refine or_icmp_gtN 109 E dX7_readBarrel_26 rfl (by omega) (by omega) (fun q26 => ?_) (fun q26 => ?_)
      · replace hk := ite_p (P := fun r : Bool × ow_I => K (some (.int (bi ((r).1)))) (S, (r).2, V, z)) q26 hk
        refine or_iconst (v := nI 1) E rfl dX7_readBarrel_109 ?_
        try dsimp only at hk
        exact or_zret E F dX7_readBarrel_110 (Nat.le_refl _) (Nat.le_refl _) (bi_nar true) hk
      · replace hk := ite_n (P := fun r : Bool × ow_I => K (some (.int (bi ((r).1)))) (S, (r).2, V, z)) q26 hk
        refine or_iload_n E rfl dX7_readBarrel_29 ?_
        refine or_if_eqN 44 E dX7_readBarrel_30 rfl (by omega) (fun q30 => ?_) (fun q30 => ?_)
        · replace hk := ite_p (P := fun r : Bool × ow_I => K (some (.int (bi ((r).1)))) (S, (r).2, V, z)) q30 hk
          refine or_iload_n E rfl dX7_readBarrel_44 ?_
          refine or_bipush (v := nI 9) E rfl dX7_readBarrel_45 ?_
          refine or_icmp_neN 72 E dX7_readBarrel_47 rfl (by omega) (by omega) (fun q47 => ?_) (fun q47 => ?_)
          · replace hk := ite_n (P := fun r : Bool × ow_I => K (some (.int (bi ((r).1)))) (S, (r).2, V, z)) q47 hk
            refine or_aload_n E rfl dX7_readBarrel_72 ?_
            refine or_bipush (v := nI 10) E rfl dX7_readBarrel_73 ?_
            refine or_sipush (v := nI 150) E rfl dX7_readBarrel_75 ?_
            refine or_cV2r (cQ_takeNumber  h_p hi) E lk_7_92 dX7_readBarrel_78 h_p.1 rfl rfl (by decide) (by decide) ⟨Nat.le_refl _, Nat.le_refl _⟩ (Nat.le_of_ble_eq_true rfl) ?_
            obtain ⟨r3, hr3⟩ : ∃ y_ : Bool × ow_I, y_ = Q_takeNumber p (nI 10) (nI 150) I := ⟨_, rfl⟩
            replace hk := lt_k (P := fun r : Bool × ow_I => K (some (.int (bi ((r).1)))) (S, (r).2, V, z)) hr3 hk
            refine or_nmZ hr3 ?_
            refine or_if_neZ 86 E dX7_readBarrel_81 rfl (fun q81 => ?_) (fun q81 => ?_)
            · replace hk := ite_p (P := fun r : Bool × ow_I => K (some (.int (bi ((r).1)))) (S, (r).2, V, z)) q81 hk
              refine or_aload_n E rfl dX7_readBarrel_86 ?_
              refine ot_getC E fl_7_141 dX7_readBarrel_87 h_c.1 rfl ?_
              refine or_iload_n E rfl dX7_readBarrel_90 ?_
              refine or_aload_n E rfl dX7_readBarrel_91 ?_
              refine ot_getI E fl_7_100 dX7_readBarrel_92 h_p.1 rfl ?_
              refine ot_iast (j := i) E dX7_readBarrel_95 h_c.2 rfl rfl (by omega) (Nat.le_of_ble_eq_true rfl) ?_
              obtain ⟨I4, hI4⟩ : ∃ y_ : ow_I, y_ = ow_u r3.2 (c + 1) i (r3.2 p 4) := ⟨_, rfl⟩
              replace hk := lt_k (P := fun r : Bool × ow_I => K (some (.int (bi ((r).1)))) (S, (r).2, V, z)) hI4 hk
              refine or_nmI hI4 ?_
              refine or_aload_n E rfl dX7_readBarrel_96 ?_
              refine or_iload_n E rfl dX7_readBarrel_97 ?_
              refine or_iconst (v := nI 1) E rfl dX7_readBarrel_98 ?_
              refine or_iaddN E dX7_readBarrel_99 ?_
              refine ot_putI E fl_7_145 fw_3_4 dX7_readBarrel_100 h_c.1 rfl ?_
              obtain ⟨I5, hI5⟩ : ∃ y_ : ow_I, y_ = ow_u I4 c 4 (nI (i + 1)) := ⟨_, rfl⟩
              replace hk := lt_k (P := fun r : Bool × ow_I => K (some (.int (bi ((r).1)))) (S, (r).2, V, z)) hI5 hk
              refine or_nmI hI5 ?_
              refine or_iincN (c := 1) E dX7_readBarrel_103 rfl rfl (by decide) ?_
              refine or_goto 23 E dX7_readBarrel_106 rfl ?_
              refine or_lv _ ?_ (ih _ _ (by subst hI5 hI4 hr3; exact (in_row (in_tn hi) (by rw [rr_u (Ne.symm hc.1), rr_u (Ne.symm hc.2)]))) (by subst hI5 hI4 hr3; exact hc) (by subst hI5 hI4 hr3; omega) (by omega) hk)
              rfl
            · replace hk := ite_n (P := fun r : Bool × ow_I => K (some (.int (bi ((r).1)))) (S, (r).2, V, z)) (bz_neg q81) hk
              refine or_iconst (v := nI 0) E rfl dX7_readBarrel_84 ?_
              try dsimp only at hk
              exact or_zret E F dX7_readBarrel_85 (Nat.le_refl _) (Nat.le_refl _) (bi_nar false) hk
          · replace hk := ite_p (P := fun r : Bool × ow_I => K (some (.int (bi ((r).1)))) (S, (r).2, V, z)) q47 hk
            refine or_aload_n E rfl dX7_readBarrel_50 ?_
            refine or_aload_n E rfl dX7_readBarrel_51 ?_
            refine or_bipush (v := nI 10) E rfl dX7_readBarrel_52 ?_
            refine or_sipush (v := nI 150) E rfl dX7_readBarrel_54 ?_
            refine or_cV2r (cQ_isInRange  h_p ) E lk_7_152 dX7_readBarrel_57 h_p.1 rfl rfl (by decide) (by decide) ⟨Nat.le_refl _, Nat.le_refl _⟩ (Nat.le_of_ble_eq_true rfl) ?_
            refine or_if_eqZ 67 E dX7_readBarrel_60 rfl (fun q60 => ?_) (fun q60 => ?_)
            · replace hk := ite_n (P := fun r : Bool × ow_I => K (some (.int (bi ((r).1)))) (S, (r).2, V, z)) (bz_neg q60) hk
              refine or_iconst (v := nI 2) E rfl dX7_readBarrel_67 ?_
              refine or_cV1r (cQ_fail  h_p ) E lk_7_54 dX7_readBarrel_68 h_p.1 rfl rfl (by decide) (by decide) ⟨Nat.le_refl _, Nat.le_refl _⟩ (Nat.le_of_ble_eq_true rfl) ?_
              obtain ⟨r6, hr6⟩ : ∃ y_ : Bool × ow_I, y_ = Q_fail p (nI 2) I := ⟨_, rfl⟩
              replace hk := lt_k (P := fun r : Bool × ow_I => K (some (.int (bi ((r).1)))) (S, (r).2, V, z)) hr6 hk
              refine or_nmZ hr6 ?_
              try dsimp only at hk
              exact or_zret E F dX7_readBarrel_71 (Nat.le_refl _) (Nat.le_refl _) (bi_nar _) hk
            · replace hk := ite_p (P := fun r : Bool × ow_I => K (some (.int (bi ((r).1)))) (S, (r).2, V, z)) q60 hk
              refine or_iconst (v := nI 3) E rfl dX7_readBarrel_63 ?_
              refine or_goto 68 E dX7_readBarrel_64 rfl ?_
              refine or_cV1r (cQ_fail  h_p ) E lk_7_54 dX7_readBarrel_68 h_p.1 rfl rfl (by decide) (by decide) ⟨Nat.le_refl _, Nat.le_refl _⟩ (Nat.le_of_ble_eq_true rfl) ?_
              obtain ⟨r7, hr7⟩ : ∃ y_ : Bool × ow_I, y_ = Q_fail p (nI 3) I := ⟨_, rfl⟩
              replace hk := lt_k (P := fun r : Bool × ow_I => K (some (.int (bi ((r).1)))) (S, (r).2, V, z)) hr7 hk
              refine or_nmZ hr7 ?_
              try dsimp only at hk
              exact or_zret E F dX7_readBarrel_71 (Nat.le_refl _) (Nat.le_refl _) (bi_nar _) hk
        · replace hk := ite_n (P := fun r : Bool × ow_I => K (some (.int (bi ((r).1)))) (S, (r).2, V, z)) q30 hk
          refine or_aload_n E rfl dX7_readBarrel_33 ?_
          refine ot_getC E fl_7_12 dX7_readBarrel_34 h_p.1 rfl ?_
          refine ot_getI E fl_7_51 dX7_readBarrel_37 h_p.2.1.1 rfl ?_
          refine or_iconst (v := nI 2) E rfl dX7_readBarrel_40 ?_
          refine or_icmp_ne 109 E dX7_readBarrel_41 rfl (fun q41 => ?_) (fun q41 => ?_)
          · replace hk := ite_n (P := fun r : Bool × ow_I => K (some (.int (bi ((r).1)))) (S, (r).2, V, z)) q41 hk
            refine or_iconst (v := nI 1) E rfl dX7_readBarrel_109 ?_
            try dsimp only at hk
            exact or_zret E F dX7_readBarrel_110 (Nat.le_refl _) (Nat.le_refl _) (bi_nar true) hk
          · replace hk := ite_p (P := fun r : Bool × ow_I => K (some (.int (bi ((r).1)))) (S, (r).2, V, z)) q41 hk
            refine or_iload_n E rfl dX7_readBarrel_44 ?_
            refine or_bipush (v := nI 9) E rfl dX7_readBarrel_45 ?_
            refine or_icmp_neN 72 E dX7_readBarrel_47 rfl (by omega) (by omega) (fun q47 => ?_) (fun q47 => ?_)
            · replace hk := ite_n (P := fun r : Bool × ow_I => K (some (.int (bi ((r).1)))) (S, (r).2, V, z)) q47 hk
              refine or_aload_n E rfl dX7_readBarrel_72 ?_
              refine or_bipush (v := nI 10) E rfl dX7_readBarrel_73 ?_
              refine or_sipush (v := nI 150) E rfl dX7_readBarrel_75 ?_
              refine or_cV2r (cQ_takeNumber  h_p hi) E lk_7_92 dX7_readBarrel_78 h_p.1 rfl rfl (by decide) (by decide) ⟨Nat.le_refl _, Nat.le_refl _⟩ (Nat.le_of_ble_eq_true rfl) ?_
              obtain ⟨r8, hr8⟩ : ∃ y_ : Bool × ow_I, y_ = Q_takeNumber p (nI 10) (nI 150) I := ⟨_, rfl⟩
              replace hk := lt_k (P := fun r : Bool × ow_I => K (some (.int (bi ((r).1)))) (S, (r).2, V, z)) hr8 hk
              refine or_nmZ hr8 ?_
              refine or_if_neZ 86 E dX7_readBarrel_81 rfl (fun q81 => ?_) (fun q81 => ?_)
              · replace hk := ite_p (P := fun r : Bool × ow_I => K (some (.int (bi ((r).1)))) (S, (r).2, V, z)) q81 hk
                refine or_aload_n E rfl dX7_readBarrel_86 ?_
                refine ot_getC E fl_7_141 dX7_readBarrel_87 h_c.1 rfl ?_
                refine or_iload_n E rfl dX7_readBarrel_90 ?_
                refine or_aload_n E rfl dX7_readBarrel_91 ?_
                refine ot_getI E fl_7_100 dX7_readBarrel_92 h_p.1 rfl ?_
                refine ot_iast (j := i) E dX7_readBarrel_95 h_c.2 rfl rfl (by omega) (Nat.le_of_ble_eq_true rfl) ?_
                obtain ⟨I9, hI9⟩ : ∃ y_ : ow_I, y_ = ow_u r8.2 (c + 1) i (r8.2 p 4) := ⟨_, rfl⟩
                replace hk := lt_k (P := fun r : Bool × ow_I => K (some (.int (bi ((r).1)))) (S, (r).2, V, z)) hI9 hk
                refine or_nmI hI9 ?_
                refine or_aload_n E rfl dX7_readBarrel_96 ?_
                refine or_iload_n E rfl dX7_readBarrel_97 ?_
                refine or_iconst (v := nI 1) E rfl dX7_readBarrel_98 ?_
                refine or_iaddN E dX7_readBarrel_99 ?_
                refine ot_putI E fl_7_145 fw_3_4 dX7_readBarrel_100 h_c.1 rfl ?_
                obtain ⟨I10, hI10⟩ : ∃ y_ : ow_I, y_ = ow_u I9 c 4 (nI (i + 1)) := ⟨_, rfl⟩
                replace hk := lt_k (P := fun r : Bool × ow_I => K (some (.int (bi ((r).1)))) (S, (r).2, V, z)) hI10 hk
                refine or_nmI hI10 ?_
                refine or_iincN (c := 1) E dX7_readBarrel_103 rfl rfl (by decide) ?_
                refine or_goto 23 E dX7_readBarrel_106 rfl ?_
                refine or_lv _ ?_ (ih _ _ (by subst hI10 hI9 hr8; exact (in_row (in_tn hi) (by rw [rr_u (Ne.symm hc.1), rr_u (Ne.symm hc.2)]))) (by subst hI10 hI9 hr8; exact hc) (by subst hI10 hI9 hr8; omega) (by omega) hk)
                rfl
              · replace hk := ite_n (P := fun r : Bool × ow_I => K (some (.int (bi ((r).1)))) (S, (r).2, V, z)) (bz_neg q81) hk
                refine or_iconst (v := nI 0) E rfl dX7_readBarrel_84 ?_
                try dsimp only at hk
                exact or_zret E F dX7_readBarrel_85 (Nat.le_refl _) (Nat.le_refl _) (bi_nar false) hk
            · replace hk := ite_p (P := fun r : Bool × ow_I => K (some (.int (bi ((r).1)))) (S, (r).2, V, z)) q47 hk
              refine or_aload_n E rfl dX7_readBarrel_50 ?_
              refine or_aload_n E rfl dX7_readBarrel_51 ?_
              refine or_bipush (v := nI 10) E rfl dX7_readBarrel_52 ?_
              refine or_sipush (v := nI 150) E rfl dX7_readBarrel_54 ?_
              refine or_cV2r (cQ_isInRange  h_p ) E lk_7_152 dX7_readBarrel_57 h_p.1 rfl rfl (by decide) (by decide) ⟨Nat.le_refl _, Nat.le_refl _⟩ (Nat.le_of_ble_eq_true rfl) ?_
              refine or_if_eqZ 67 E dX7_readBarrel_60 rfl (fun q60 => ?_) (fun q60 => ?_)
              · replace hk := ite_n (P := fun r : Bool × ow_I => K (some (.int (bi ((r).1)))) (S, (r).2, V, z)) (bz_neg q60) hk
                refine or_iconst (v := nI 2) E rfl dX7_readBarrel_67 ?_
                refine or_cV1r (cQ_fail  h_p ) E lk_7_54 dX7_readBarrel_68 h_p.1 rfl rfl (by decide) (by decide) ⟨Nat.le_refl _, Nat.le_refl _⟩ (Nat.le_of_ble_eq_true rfl) ?_
                obtain ⟨r11, hr11⟩ : ∃ y_ : Bool × ow_I, y_ = Q_fail p (nI 2) I := ⟨_, rfl⟩
                replace hk := lt_k (P := fun r : Bool × ow_I => K (some (.int (bi ((r).1)))) (S, (r).2, V, z)) hr11 hk
                refine or_nmZ hr11 ?_
                try dsimp only at hk
                exact or_zret E F dX7_readBarrel_71 (Nat.le_refl _) (Nat.le_refl _) (bi_nar _) hk
              · replace hk := ite_p (P := fun r : Bool × ow_I => K (some (.int (bi ((r).1)))) (S, (r).2, V, z)) q60 hk
                refine or_iconst (v := nI 3) E rfl dX7_readBarrel_63 ?_
                refine or_goto 68 E dX7_readBarrel_64 rfl ?_
                refine or_cV1r (cQ_fail  h_p ) E lk_7_54 dX7_readBarrel_68 h_p.1 rfl rfl (by decide) (by decide) ⟨Nat.le_refl _, Nat.le_refl _⟩ (Nat.le_of_ble_eq_true rfl) ?_
                obtain ⟨r12, hr12⟩ : ∃ y_ : Bool × ow_I, y_ = Q_fail p (nI 3) I := ⟨_, rfl⟩
                replace hk := lt_k (P := fun r : Bool × ow_I => K (some (.int (bi ((r).1)))) (S, (r).2, V, z)) hr12 hk
                refine or_nmZ hr12 ?_
                try dsimp only at hk
                exact or_zret E F dX7_readBarrel_71 (Nat.le_refl _) (Nat.le_refl _) (bi_nar _) hk
  dsimp only [Q_readBarrel] at hk
  refine or_aload_n E rfl dX7_readBarrel_0 ?_
  refine or_iconst (v := nI 1) E rfl dX7_readBarrel_1 ?_
  refine or_sipush (v := nI 999) E rfl dX7_readBarrel_2 ?_
  refine or_cV2r (cQ_takeNumber  h_p hi) E lk_7_92 dX7_readBarrel_5 h_p.1 rfl rfl (by decide) (by decide) ⟨Nat.le_refl _, Nat.le_refl _⟩ (Nat.le_of_ble_eq_true rfl) ?_
  obtain ⟨r1, hr1⟩ : ∃ y_ : Bool × ow_I, y_ = Q_takeNumber p (nI 1) (nI 999) I := ⟨_, rfl⟩
  replace hk := lt_k (P := fun r : Bool × ow_I => K (some (.int (bi ((r).1)))) (S, (r).2, V, z)) hr1 hk
  refine or_nmZ hr1 ?_
  refine or_if_neZ 13 E dX7_readBarrel_8 rfl (fun q8 => ?_) (fun q8 => ?_)
  · replace hk := ite_p (P := fun r : Bool × ow_I => K (some (.int (bi ((r).1)))) (S, (r).2, V, z)) q8 hk
    refine or_aload_n E rfl dX7_readBarrel_13 ?_
    refine or_aload_n E rfl dX7_readBarrel_14 ?_
    refine ot_getI E fl_7_100 dX7_readBarrel_15 h_p.1 rfl ?_
    refine ot_putI E fl_7_138 fw_3_1 dX7_readBarrel_18 h_c.1 rfl ?_
    obtain ⟨I2, hI2⟩ : ∃ y_ : ow_I, y_ = ow_u r1.2 c 1 (r1.2 p 4) := ⟨_, rfl⟩
    replace hk := lt_k (P := fun r : Bool × ow_I => K (some (.int (bi ((r).1)))) (S, (r).2, V, z)) hI2 hk
    refine or_nmI hI2 ?_
    refine or_iconst (v := nI 0) E rfl dX7_readBarrel_21 ?_
    refine or_istore_n E dX7_readBarrel_22 (by decide) ?_
    refine or_lv _ ?_ (L23 11 _ _ (by subst hI2 hr1; exact (in_row (in_tn hi) (rr_u (Ne.symm hc.1)))) (by subst hI2 hr1; exact hc) (by decide) (by decide) hk)
    rfl
  · replace hk := ite_n (P := fun r : Bool × ow_I => K (some (.int (bi ((r).1)))) (S, (r).2, V, z)) (bz_neg q8) hk
    refine or_iconst (v := nI 0) E rfl dX7_readBarrel_11 ?_
    try dsimp only at hk
    exact or_zret E F dX7_readBarrel_12 (Nat.le_refl _) (Nat.le_refl _) (bi_nar false) hk
