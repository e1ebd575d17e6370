theorem fl_7_25 : ow_fl RX7 25 7 2 := ⟨_, rfl, by decide, ow_T_in 308 (by decide +kernel) (by decide +kernel), ow_ok7⟩
theorem lk_7_120 : ow_lv RX7 120 yX7_readBuyer cX7_readBuyer 4 (some .boolean) 1 := ⟨ow_T_in 481 (by decide +kernel) (by decide +kernel), ow_T_in 483 (by decide +kernel) (by decide +kernel), ow_T_sel 11 (by decide +kernel) (by decide +kernel), ow_T_in 7 (by decide +kernel) (by decide +kernel), ow_T_in 484 (by decide +kernel) (by decide +kernel), ⟨by decide +kernel, by decide +kernel, by decide +kernel⟩⟩
theorem lk_7_134 : ow_lv RX7 134 yX7_readBarrel cX7_readBarrel 3 (some .boolean) 1 := ⟨ow_T_in 499 (by decide +kernel) (by decide +kernel), ow_T_in 501 (by decide +kernel) (by decide +kernel), ow_T_sel 13 (by decide +kernel) (by decide +kernel), ow_T_in 7 (by decide +kernel) (by decide +kernel), ow_T_in 502 (by decide +kernel) (by decide +kernel), ⟨by decide +kernel, by decide +kernel, by decide +kernel⟩⟩
theorem lk_7_148 : ow_lv RX7 148 yX6_takeBarrel cX6_takeBarrel 6 (some .int) 4 := ⟨ow_T_in 503 (by decide +kernel) (by decide +kernel), ow_T_in 504 (by decide +kernel) (by decide +kernel), ow_T_in 505 (by decide +kernel) (by decide +kernel), ow_T_in 2 (by decide +kernel) (by decide +kernel), ow_T_in 506 (by decide +kernel) (by decide +kernel), ⟨by decide +kernel, by decide +kernel, by decide +kernel⟩⟩
def Q_readBuyers_L12 (p : Nat) (a : Nat) : Nat → ow_I → Nat → Bool × ow_I
  | 0, I, _ => (false, I)
  | n + 1, I, i => if 6 < i then (true, I) else if U_isWord (p + 1) 1 I then if i = 6 then lt (Q_fail p (nI 3) I) (fun (r3 : Bool × ow_I) => (r3.1, r3.2)) else lt (Q_readBuyer p a I) (fun (r2 : Bool × ow_I) => if r2.1 then Q_readBuyers_L12 p a n r2.2 (i + 1) else (false, r2.2)) else (true, I)
def Q_readBuyers (p : Nat) (a : Nat) (I : ow_I) : Bool × ow_I :=
  lt (Q_readBuyer p a I) (fun (r1 : Bool × ow_I) => if r1.1 then Q_readBuyers_L12 p a 7 r1.2 1 else (false, r1.2))
set_option maxRecDepth 100000 in
set_option maxHeartbeats 400000 in
theorem cQ_readBuyers {Z : Nat → Nat} {S : Nat → Option ow_Sh} {I : ow_I} {V : Nat → Nat → Value} {z : Nat} {p : Nat} {a : Nat} (h_p : ps_S S p) (h_a : mk_S S a) (hi : in_R (I (p + 1))) (hd : a + 51 ≤ p ∨ p + 46 ≤ a) (hV : k_V a I) : ow_Cx Z yX7_readBuyers cX7_readBuyers 3 (some .boolean) 7 0 0 [.ref p, .ref a] (S, I, V, z) (ox_s S V z 0 (some (.int (bi ((Q_readBuyers p a I).1)))) ((Q_readBuyers p a I).2)) := by
  refine ow_Cx.off rfl (Nat.le_of_ble_eq_true rfl) (fun X K E G F hk => ?_)
  have E : ow_E X RX7 cX7_readBuyers 3 (ow_rm 7 0 0) := E
  refine or_lv [(0, .ref p), (1, .ref a)] rfl ?_
  have hT : ps_T p a I I := ⟨hi, hV, fun _ _ _ => rfl⟩
  have L12 : ∀ (n : Nat) (I : ow_I) (i : Nat) (hi : in_R (I (p + 1))) (hd : a + 51 ≤ p ∨ p + 46 ≤ a) (hV : k_V a I) (hn : i ≤ 7) (hm : 7 - i < n) (hk : ox_e K S V z 0 (some (.int (bi ((Q_readBuyers_L12 p a n I i).1)))) ((Q_readBuyers_L12 p a n I i).2)), ow_W X 0 0 (S, I, V, z) 12 [(0, .ref p), (1, .ref a), (2, .int (nI i))] [] := by
    intro n
    induction n with
    | zero => intro I i hi hd hV hn hm; omega
    | succ n ih =>
      intro I i hi hd hV hn hm hk
      dsimp only [Q_readBuyers_L12] at hk
      have hT : ps_T p a I I := ⟨hi, hV, fun _ _ _ => rfl⟩
      refine or_iload_n E rfl dX7_readBuyers_12 ?_
      refine or_bipush (v := nI 6) E rfl dX7_readBuyers_13 ?_
      refine or_icmp_gtN 58 E dX7_readBuyers_15 rfl (by omega) (by omega) (fun q15 => ?_) (fun q15 => ?_)
      · replace hk := ite_p (P := fun r : Bool × ow_I => ox_e K S V z 0 (some (.int (bi ((r).1)))) ((r).2)) q15 hk
        refine or_iconst (v := nI 1) E rfl dX7_readBuyers_58 ?_
        try dsimp only at hk
        exact or_xr E F (fun X' E' F' => or_zret E' F' dX7_readBuyers_59 (Nat.le_of_ble_eq_true rfl) (Nat.le_of_ble_eq_true rfl) (bi_nar true) (hk.1 rfl))
      · replace hk := ite_n (P := fun r : Bool × ow_I => ox_e K S V z 0 (some (.int (bi ((r).1)))) ((r).2)) q15 hk
        refine or_aload_n E rfl dX7_readBuyers_18 ?_
        refine ot_getC E fl_7_12 dX7_readBuyers_19 h_p.1 rfl ?_
        refine or_ldcS E (og_12 G 1 rfl) dX7_readBuyers_22 ?_
        refine or_fV1r (cU_isWord (Z := Z) (w := 1) h_p.2.1 (show (1 : Nat) < 10 by decide) hi.2.1.1 hi.2.1.2 hi.2.2.1 hi.2.2.2) E G F lk_7_125 dX7_readBuyers_24 h_p.2.1.1 rfl rfl (by decide) (by decide) ⟨(Nat.le_of_ble_eq_true rfl), (Nat.le_of_ble_eq_true rfl)⟩ (Nat.le_of_ble_eq_true rfl) (fun _ => ?_) (fun h => absurd h (Nat.lt_irrefl 0))
        refine or_if_eqZ 58 E dX7_readBuyers_27 rfl (fun q27 => ?_) (fun q27 => ?_)
        · replace hk := ite_n (P := fun r : Bool × ow_I => ox_e K S V z 0 (some (.int (bi ((r).1)))) ((r).2)) (bz_neg q27) hk
          refine or_iconst (v := nI 1) E rfl dX7_readBuyers_58 ?_
          try dsimp only at hk
          exact or_xr E F (fun X' E' F' => or_zret E' F' dX7_readBuyers_59 (Nat.le_of_ble_eq_true rfl) (Nat.le_of_ble_eq_true rfl) (bi_nar true) (hk.1 rfl))
        · replace hk := ite_p (P := fun r : Bool × ow_I => ox_e K S V z 0 (some (.int (bi ((r).1)))) ((r).2)) q27 hk
          refine or_iload_n E rfl dX7_readBuyers_30 ?_
          refine or_bipush (v := nI 6) E rfl dX7_readBuyers_31 ?_
          refine or_icmp_neN 42 E dX7_readBuyers_33 rfl (by omega) (by omega) (fun q33 => ?_) (fun q33 => ?_)
          · replace hk := ite_n (P := fun r : Bool × ow_I => ox_e K S V z 0 (some (.int (bi ((r).1)))) ((r).2)) q33 hk
            refine or_aload_n E rfl dX7_readBuyers_42 ?_
            refine or_aload_n E rfl dX7_readBuyers_43 ?_
            refine or_fV1r (cQ_readBuyer (Z := Z)  h_p h_a hi hd hV) E G F lk_7_120 dX7_readBuyers_44 h_p.1 rfl rfl (by decide) (by decide) ⟨(Nat.le_of_ble_eq_true rfl), (Nat.le_of_ble_eq_true rfl)⟩ (Nat.le_of_ble_eq_true rfl) (fun _ => ?_) (fun h => absurd h (Nat.lt_irrefl 0))
            obtain ⟨r2, hr2⟩ : ∃ y_ : Bool × ow_I, y_ = Q_readBuyer p a I := ⟨_, rfl⟩
            replace hk := lt_k (P := fun r : Bool × ow_I => ox_e K S V z 0 (some (.int (bi ((r).1)))) ((r).2)) hr2 hk
            refine or_nmZ hr2 ?_
            refine or_if_neZ 52 E dX7_readBuyers_47 rfl (fun q47 => ?_) (fun q47 => ?_)
            · replace hk := ite_p (P := fun r : Bool × ow_I => ox_e K S V z 0 (some (.int (bi ((r).1)))) ((r).2)) q47 hk
              refine or_iincN (c := 1) E dX7_readBuyers_52 rfl rfl (by decide) ?_
              refine or_goto 12 E dX7_readBuyers_55 rfl ?_
              refine or_lv _ ?_ (ih _ _ (by subst hr2; exact (pT_ry hT hd).1) (by subst hr2; exact hd) (by subst hr2; exact (pT_ry hT hd).2.1) (by subst hr2; omega) (by omega) hk)
              rfl
            · replace hk := ite_n (P := fun r : Bool × ow_I => ox_e K S V z 0 (some (.int (bi ((r).1)))) ((r).2)) (bz_neg q47) hk
              refine or_iconst (v := nI 0) E rfl dX7_readBuyers_50 ?_
              try dsimp only at hk
              exact or_xr E F (fun X' E' F' => or_zret E' F' dX7_readBuyers_51 (Nat.le_of_ble_eq_true rfl) (Nat.le_of_ble_eq_true rfl) (bi_nar false) (hk.1 rfl))
          · replace hk := ite_p (P := fun r : Bool × ow_I => ox_e K S V z 0 (some (.int (bi ((r).1)))) ((r).2)) q33 hk
            refine or_aload_n E rfl dX7_readBuyers_36 ?_
            refine or_iconst (v := nI 3) E rfl dX7_readBuyers_37 ?_
            refine or_cV1r (cQ_fail  h_p ) E lk_7_54 dX7_readBuyers_38 h_p.1 rfl rfl (by decide) (by decide) ⟨(Nat.le_of_ble_eq_true rfl), (Nat.le_of_ble_eq_true rfl)⟩ (Nat.le_of_ble_eq_true rfl) ?_
            obtain ⟨r3, hr3⟩ : ∃ y_ : Bool × ow_I, y_ = Q_fail p (nI 3) I := ⟨_, rfl⟩
            replace hk := lt_k (P := fun r : Bool × ow_I => ox_e K S V z 0 (some (.int (bi ((r).1)))) ((r).2)) hr3 hk
            refine or_nmZ hr3 ?_
            try dsimp only at hk
            exact or_xr E F (fun X' E' F' => or_zret E' F' dX7_readBuyers_41 (Nat.le_of_ble_eq_true rfl) (Nat.le_of_ble_eq_true rfl) (bi_nar _) (hk.1 rfl))
  try dsimp only [Q_readBuyers] at hk
  refine or_aload_n E rfl dX7_readBuyers_0 ?_
  refine or_aload_n E rfl dX7_readBuyers_1 ?_
  refine or_fV1r (cQ_readBuyer (Z := Z)  h_p h_a hi hd hV) E G F lk_7_120 dX7_readBuyers_2 h_p.1 rfl rfl (by decide) (by decide) ⟨(Nat.le_of_ble_eq_true rfl), (Nat.le_of_ble_eq_true rfl)⟩ (Nat.le_of_ble_eq_true rfl) (fun _ => ?_) (fun h => absurd h (Nat.lt_irrefl 0))
  obtain ⟨r1, hr1⟩ : ∃ y_ : Bool × ow_I, y_ = Q_readBuyer p a I := ⟨_, rfl⟩
  replace hk := lt_k (P := fun r : Bool × ow_I => ox_e K S V z 0 (some (.int (bi ((r).1)))) ((r).2)) hr1 hk
  refine or_nmZ hr1 ?_
  refine or_if_neZ 10 E dX7_readBuyers_5 rfl (fun q5 => ?_) (fun q5 => ?_)
  · replace hk := ite_p (P := fun r : Bool × ow_I => ox_e K S V z 0 (some (.int (bi ((r).1)))) ((r).2)) q5 hk
    refine or_iconst (v := nI 1) E rfl dX7_readBuyers_10 ?_
    refine or_istore_n E dX7_readBuyers_11 (by decide) ?_
    refine or_lv _ ?_ (L12 7 _ _ (by subst hr1; exact (pT_ry hT hd).1) (by subst hr1; exact hd) (by subst hr1; exact (pT_ry hT hd).2.1) (by decide) (by decide) hk)
    rfl
  · replace hk := ite_n (P := fun r : Bool × ow_I => ox_e K S V z 0 (some (.int (bi ((r).1)))) ((r).2)) (bz_neg q5) hk
    refine or_iconst (v := nI 0) E rfl dX7_readBuyers_8 ?_
    try dsimp only at hk
    exact or_xr E F (fun X' E' F' => or_zret E' F' dX7_readBuyers_9 (Nat.le_of_ble_eq_true rfl) (Nat.le_of_ble_eq_true rfl) (bi_nar false) (hk.1 rfl))
def Q_readBarrels_L2 (p : Nat) (a : Nat) : Nat → ow_I → Nat → Bool × ow_I
  | 0, I, _ => (false, I)
  | n + 1, I, i => if 20 < i then (true, I) else if U_isWord (p + 1) 2 I then if i = 20 then lt (Q_fail p (nI 3) I) (fun (r5 : Bool × ow_I) => (r5.1, r5.2)) else lt (U_advance (p + 1) I) (fun (I1 : ow_I) => lt (Q_readBarrel p (p + 4) I1) (fun (r2 : Bool × ow_I) => if r2.1 then lt (Q_takeSemicolon p r2.2) (fun (r3 : Bool × ow_I) => if r3.1 then lt (K_takeBarrel a (r3.2 (p + 4) 1) ((p + 4) + 1) 0 (tn (r3.2 (p + 4) 4)) r3.2) (fun (r4 : Int32 × ow_I) => Q_readBarrels_L2 p a n r4.2 (i + 1)) else (false, r3.2)) else (false, r2.2))) else (true, I)
def Q_readBarrels (p : Nat) (a : Nat) (I : ow_I) : Bool × ow_I :=
  Q_readBarrels_L2 p a 22 I 0
set_option maxRecDepth 100000 in
set_option maxHeartbeats 400000 in
theorem cQ_readBarrels {Z : Nat → Nat} {S : Nat → Option ow_Sh} {I : ow_I} {V : Nat → Nat → Value} {z : Nat} {p : Nat} {a : Nat} (h_p : ps_S S p) (h_a : mk_S S a) (hi : in_R (I (p + 1))) (hd : a + 51 ≤ p ∨ p + 46 ≤ a) (hV : k_V a I) : ow_Cx Z yX7_readBarrels cX7_readBarrels 3 (some .boolean) 5 0 0 [.ref p, .ref a] (S, I, V, z) (ox_s S V z 0 (some (.int (bi ((Q_readBarrels p a I).1)))) ((Q_readBarrels p a I).2)) := by
  refine ow_Cx.off rfl (Nat.le_of_ble_eq_true rfl) (fun X K E G F hk => ?_)
  have E : ow_E X RX7 cX7_readBarrels 3 (ow_rm 5 0 0) := E
  refine or_lv [(0, .ref p), (1, .ref a)] rfl ?_
  have hT : ps_T p a I I := ⟨hi, hV, fun _ _ _ => rfl⟩
  have L2 : ∀ (n : Nat) (I : ow_I) (i : Nat) (hi : in_R (I (p + 1))) (hd : a + 51 ≤ p ∨ p + 46 ≤ a) (hV : k_V a I) (hn : i ≤ 21) (hm : 21 - i < n) (hk : ox_e K S V z 0 (some (.int (bi ((Q_readBarrels_L2 p a n I i).1)))) ((Q_readBarrels_L2 p a n I i).2)), ow_W X 0 0 (S, I, V, z) 2 [(0, .ref p), (1, .ref a), (2, .int (nI i))] [] := by
    intro n
    induction n with
    | zero => intro I i hi hd hV hn hm; omega
    | succ n ih =>
      intro I i hi hd hV hn hm hk
      dsimp only [Q_readBarrels_L2] at hk
      have hT : ps_T p a I I := ⟨hi, hV, fun _ _ _ => rfl⟩
      refine or_iload_n E rfl dX7_readBarrels_2 ?_
      refine or_bipush (v := nI 20) E rfl dX7_readBarrels_3 ?_
      refine or_icmp_gtN 92 E dX7_readBarrels_5 rfl (by omega) (by omega) (fun q5 => ?_) (fun q5 => ?_)
      · replace hk := ite_p (P := fun r : Bool × ow_I => ox_e K S V z 0 (some (.int (bi ((r).1)))) ((r).2)) q5 hk
        refine or_iconst (v := nI 1) E rfl dX7_readBarrels_92 ?_
        try dsimp only at hk
        exact or_xr E F (fun X' E' F' => or_zret E' F' dX7_readBarrels_93 (Nat.le_of_ble_eq_true rfl) (Nat.le_of_ble_eq_true rfl) (bi_nar true) (hk.1 rfl))
      · replace hk := ite_n (P := fun r : Bool × ow_I => ox_e K S V z 0 (some (.int (bi ((r).1)))) ((r).2)) q5 hk
        refine or_aload_n E rfl dX7_readBarrels_8 ?_
        refine ot_getC E fl_7_12 dX7_readBarrels_9 h_p.1 rfl ?_
        refine or_ldcS E (og_12 G 2 rfl) dX7_readBarrels_12 ?_
        refine or_fV1r (cU_isWord (Z := Z) (w := 2) h_p.2.1 (show (2 : Nat) < 10 by decide) hi.2.1.1 hi.2.1.2 hi.2.2.1 hi.2.2.2) E G F lk_7_125 dX7_readBarrels_14 h_p.2.1.1 rfl rfl (by decide) (by decide) ⟨(Nat.le_of_ble_eq_true rfl), (Nat.le_of_ble_eq_true rfl)⟩ (Nat.le_of_ble_eq_true rfl) (fun _ => ?_) (fun h => absurd h (Nat.lt_irrefl 0))
        refine or_if_eqZ 92 E dX7_readBarrels_17 rfl (fun q17 => ?_) (fun q17 => ?_)
        · replace hk := ite_n (P := fun r : Bool × ow_I => ox_e K S V z 0 (some (.int (bi ((r).1)))) ((r).2)) (bz_neg q17) hk
          refine or_iconst (v := nI 1) E rfl dX7_readBarrels_92 ?_
          try dsimp only at hk
          exact or_xr E F (fun X' E' F' => or_zret E' F' dX7_readBarrels_93 (Nat.le_of_ble_eq_true rfl) (Nat.le_of_ble_eq_true rfl) (bi_nar true) (hk.1 rfl))
        · replace hk := ite_p (P := fun r : Bool × ow_I => ox_e K S V z 0 (some (.int (bi ((r).1)))) ((r).2)) q17 hk
          refine or_iload_n E rfl dX7_readBarrels_20 ?_
          refine or_bipush (v := nI 20) E rfl dX7_readBarrels_21 ?_
          refine or_icmp_neN 32 E dX7_readBarrels_23 rfl (by omega) (by omega) (fun q23 => ?_) (fun q23 => ?_)
          · replace hk := ite_n (P := fun r : Bool × ow_I => ox_e K S V z 0 (some (.int (bi ((r).1)))) ((r).2)) q23 hk
            refine or_aload_n E rfl dX7_readBarrels_32 ?_
            refine ot_getC E fl_7_12 dX7_readBarrels_33 h_p.1 rfl ?_
            refine or_cV0v (cU_advance  h_p.2.1 hi.1.1 hi.1.2 hi.2.2.1 hi.2.2.2) E lk_7_65 dX7_readBarrels_36 h_p.2.1.1 rfl rfl (by decide) (by decide) ⟨(Nat.le_of_ble_eq_true rfl), (Nat.le_of_ble_eq_true rfl)⟩ (Nat.le_of_ble_eq_true rfl) ?_
            obtain ⟨I1, hI1⟩ : ∃ y_ : ow_I, y_ = U_advance (p + 1) I := ⟨_, rfl⟩
            replace hk := lt_k (P := fun r : Bool × ow_I => ox_e K S V z 0 (some (.int (bi ((r).1)))) ((r).2)) hI1 hk
            refine or_nmI hI1 ?_
            refine or_aload_n E rfl dX7_readBarrels_39 ?_
            refine or_aload_n E rfl dX7_readBarrels_40 ?_
            refine ot_getC E fl_7_25 dX7_readBarrels_41 h_p.1 rfl ?_
            refine or_cV1r (cQ_readBarrel  h_p h_p.2.2.2.1 (by subst hI1; exact (pT_adv hT hd).1) (by omega)) E lk_7_134 dX7_readBarrels_44 h_p.1 rfl rfl (by decide) (by decide) ⟨(Nat.le_of_ble_eq_true rfl), (Nat.le_of_ble_eq_true rfl)⟩ (Nat.le_of_ble_eq_true rfl) ?_
            obtain ⟨r2, hr2⟩ : ∃ y_ : Bool × ow_I, y_ = Q_readBarrel p (p + 4) I1 := ⟨_, rfl⟩
            replace hk := lt_k (P := fun r : Bool × ow_I => ox_e K S V z 0 (some (.int (bi ((r).1)))) ((r).2)) hr2 hk
            refine or_nmZ hr2 ?_
            refine or_if_eqZ 57 E dX7_readBarrels_47 rfl (fun q47 => ?_) (fun q47 => ?_)
            · replace hk := ite_n (P := fun r : Bool × ow_I => ox_e K S V z 0 (some (.int (bi ((r).1)))) ((r).2)) (bz_neg q47) hk
              refine or_iconst (v := nI 0) E rfl dX7_readBarrels_57 ?_
              try dsimp only at hk
              exact or_xr E F (fun X' E' F' => or_zret E' F' dX7_readBarrels_58 (Nat.le_of_ble_eq_true rfl) (Nat.le_of_ble_eq_true rfl) (bi_nar false) (hk.1 rfl))
            · replace hk := ite_p (P := fun r : Bool × ow_I => ox_e K S V z 0 (some (.int (bi ((r).1)))) ((r).2)) q47 hk
              refine or_aload_n E rfl dX7_readBarrels_50 ?_
              refine or_cV0r (cQ_takeSemicolon  h_p (by subst hr2 hI1; exact (pT_rb (pT_adv hT hd) hd).1)) E lk_7_76 dX7_readBarrels_51 h_p.1 rfl rfl (by decide) (by decide) ⟨(Nat.le_of_ble_eq_true rfl), (Nat.le_of_ble_eq_true rfl)⟩ (Nat.le_of_ble_eq_true rfl) ?_
              obtain ⟨r3, hr3⟩ : ∃ y_ : Bool × ow_I, y_ = Q_takeSemicolon p r2.2 := ⟨_, rfl⟩
              replace hk := lt_k (P := fun r : Bool × ow_I => ox_e K S V z 0 (some (.int (bi ((r).1)))) ((r).2)) hr3 hk
              refine or_nmZ hr3 ?_
              refine or_if_neZ 59 E dX7_readBarrels_54 rfl (fun q54 => ?_) (fun q54 => ?_)
              · replace hk := ite_p (P := fun r : Bool × ow_I => ox_e K S V z 0 (some (.int (bi ((r).1)))) ((r).2)) q54 hk
                refine or_aload_n E rfl dX7_readBarrels_59 ?_
                refine or_aload_n E rfl dX7_readBarrels_60 ?_
                refine ot_getC E fl_7_25 dX7_readBarrels_61 h_p.1 rfl ?_
                refine ot_getI E fl_7_138 dX7_readBarrels_64 h_p.2.2.2.1.1 rfl ?_
                refine or_aload_n E rfl dX7_readBarrels_67 ?_
                refine ot_getC E fl_7_25 dX7_readBarrels_68 h_p.1 rfl ?_
                refine ot_getC E fl_7_141 dX7_readBarrels_71 h_p.2.2.2.1.1 rfl ?_
                refine or_iconst (v := nI 0) E rfl dX7_readBarrels_74 ?_
                refine or_aload_n E rfl dX7_readBarrels_75 ?_
                refine ot_getC E fl_7_25 dX7_readBarrels_76 h_p.1 rfl ?_
                refine ot_getI E fl_7_145 dX7_readBarrels_79 h_p.2.2.2.1.1 rfl ?_
                refine or_top (nI_tn (by subst hr3 hr2 hI1; rw [rr_ts (by omega) (by omega)]; exact (rb_1 (by omega) q47).1)).symm ?_
                refine or_cV4r (cK_takeBarrel  h_a h_p.2.2.2.1.2 (by subst hr3 hr2 hI1; exact (pT_ts (pT_rb (pT_adv hT hd) hd) hd).2.1) (by decide) (by subst hr3 hr2 hI1; rw [rr_ts (by omega) (by omega)]; have := (rb_1 (by omega) q47).2; omega)) E lk_7_148 dX7_readBarrels_82 h_a.1 rfl rfl (by decide) (by decide) ⟨(Nat.le_of_ble_eq_true rfl), (Nat.le_of_ble_eq_true rfl)⟩ (Nat.le_of_ble_eq_true rfl) ?_
                obtain ⟨r4, hr4⟩ : ∃ y_ : Int32 × ow_I, y_ = K_takeBarrel a (r3.2 (p + 4) 1) ((p + 4) + 1) 0 (tn (r3.2 (p + 4) 4)) r3.2 := ⟨_, rfl⟩
                replace hk := lt_k (P := fun r : Bool × ow_I => ox_e K S V z 0 (some (.int (bi ((r).1)))) ((r).2)) hr4 hk
                refine or_nmJ hr4 ?_
                refine or_pop E rfl dX7_readBarrels_85 ?_
                refine or_iincN (c := 1) E dX7_readBarrels_86 rfl rfl (by decide) ?_
                refine or_goto 2 E dX7_readBarrels_89 rfl ?_
                refine or_lv _ ?_ (ih _ _ (by subst hr4 hr3 hr2 hI1; exact (pT_tbar (pT_ts (pT_rb (pT_adv hT hd) hd) hd) hd).1) (by subst hr4 hr3 hr2 hI1; exact hd) (by subst hr4 hr3 hr2 hI1; exact (pT_tbar (pT_ts (pT_rb (pT_adv hT hd) hd) hd) hd).2.1) (by subst hr4 hr3 hr2 hI1; omega) (by omega) hk)
                rfl
              · replace hk := ite_n (P := fun r : Bool × ow_I => ox_e K S V z 0 (some (.int (bi ((r).1)))) ((r).2)) (bz_neg q54) hk
                refine or_iconst (v := nI 0) E rfl dX7_readBarrels_57 ?_
                try dsimp only at hk
                exact or_xr E F (fun X' E' F' => or_zret E' F' dX7_readBarrels_58 (Nat.le_of_ble_eq_true rfl) (Nat.le_of_ble_eq_true rfl) (bi_nar false) (hk.1 rfl))
          · replace hk := ite_p (P := fun r : Bool × ow_I => ox_e K S V z 0 (some (.int (bi ((r).1)))) ((r).2)) q23 hk
            refine or_aload_n E rfl dX7_readBarrels_26 ?_
            refine or_iconst (v := nI 3) E rfl dX7_readBarrels_27 ?_
            refine or_cV1r (cQ_fail  h_p ) E lk_7_54 dX7_readBarrels_28 h_p.1 rfl rfl (by decide) (by decide) ⟨(Nat.le_of_ble_eq_true rfl), (Nat.le_of_ble_eq_true rfl)⟩ (Nat.le_of_ble_eq_true rfl) ?_
            obtain ⟨r5, hr5⟩ : ∃ y_ : Bool × ow_I, y_ = Q_fail p (nI 3) I := ⟨_, rfl⟩
            replace hk := lt_k (P := fun r : Bool × ow_I => ox_e K S V z 0 (some (.int (bi ((r).1)))) ((r).2)) hr5 hk
            refine or_nmZ hr5 ?_
            try dsimp only at hk
            exact or_xr E F (fun X' E' F' => or_zret E' F' dX7_readBarrels_31 (Nat.le_of_ble_eq_true rfl) (Nat.le_of_ble_eq_true rfl) (bi_nar _) (hk.1 rfl))
  try dsimp only [Q_readBarrels] at hk
  refine or_iconst (v := nI 0) E rfl dX7_readBarrels_0 ?_
  refine or_istore_n E dX7_readBarrels_1 (by decide) ?_
  refine or_lv _ ?_ (L2 22 _ _ hi hd hV (by decide) (by decide) hk)
  rfl
