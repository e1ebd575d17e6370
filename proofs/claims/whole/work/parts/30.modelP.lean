theorem lk_11_238 : ow_lv RX11 238 yX11_beginText cX11_beginText 1 none 0 := ⟨ow_T_in 1740 (by decide +kernel) (by decide +kernel), ow_T_in 1742 (by decide +kernel) (by decide +kernel), ow_T_sel 47 (by decide +kernel) (by decide +kernel), ow_T_in 19 (by decide +kernel) (by decide +kernel), ow_T_in 1743 (by decide +kernel) (by decide +kernel), ⟨by decide +kernel, by decide +kernel, by decide +kernel⟩⟩
theorem lk_11_241 : ow_lv RX11 241 yX11_failsAtMarket cX11_failsAtMarket 1 (some .boolean) 0 := ⟨ow_T_in 1765 (by decide +kernel) (by decide +kernel), ow_T_in 1767 (by decide +kernel) (by decide +kernel), ow_T_sel 53 (by decide +kernel) (by decide +kernel), ow_T_in 19 (by decide +kernel) (by decide +kernel), ow_T_in 1768 (by decide +kernel) (by decide +kernel), ⟨by decide +kernel, by decide +kernel, by decide +kernel⟩⟩
theorem lk_11_244 : ow_lv RX11 244 yX11_failsAtBuyer cX11_failsAtBuyer 1 (some .boolean) 0 := ⟨ow_T_in 1797 (by decide +kernel) (by decide +kernel), ow_T_in 1799 (by decide +kernel) (by decide +kernel), ow_T_sel 61 (by decide +kernel) (by decide +kernel), ow_T_in 19 (by decide +kernel) (by decide +kernel), ow_T_in 1800 (by decide +kernel) (by decide +kernel), ⟨by decide +kernel, by decide +kernel, by decide +kernel⟩⟩
theorem lk_11_247 : ow_lv RX11 247 yX11_failsAtFirstBarrel cX11_failsAtFirstBarrel 3 (some .boolean) 0 := ⟨ow_T_in 1801 (by decide +kernel) (by decide +kernel), ow_T_in 1803 (by decide +kernel) (by decide +kernel), ow_T_sel 62 (by decide +kernel) (by decide +kernel), ow_T_in 19 (by decide +kernel) (by decide +kernel), ow_T_in 1804 (by decide +kernel) (by decide +kernel), ⟨by decide +kernel, by decide +kernel, by decide +kernel⟩⟩
def M_failsAtSetup_L37 (m : Nat) : Nat → ow_I → Bool × ow_I
  | 0, I => (default, I)
  | n + 1, I => if M_wordOf m I = nI 2 then lt (M_failsAtFirstBarrel m I) (fun (r5 : Bool × ow_I) => if r5.1 then (true, r5.2) else M_failsAtSetup_L37 m n r5.2 ) else if I m 9 = 0 then (false, I) else lt (M_fails m (nI 1) I) (fun (r4 : Bool × ow_I) => if r4.1 then (true, r4.2) else (false, r4.2))
def M_failsAtSetup_L20 (m : Nat) : Nat → ow_I → Bool × ow_I
  | 0, I => (default, I)
  | n + 1, I => if M_wordOf m I = nI 1 then lt (M_failsAtBuyer m I) (fun (r6 : Bool × ow_I) => if r6.1 then (true, r6.2) else M_failsAtSetup_L20 m n r6.2 ) else M_failsAtSetup_L37 m 21 I 
def M_failsAtSetup (m : Nat) (I : ow_I) : Bool × ow_I :=
  lt (M_beginText m I) (fun (I1 : ow_I) => lt (M_failsAtMarket m I1) (fun (r2 : Bool × ow_I) => if r2.1 then (true, r2.2) else lt (M_failsAtBuyer m r2.2) (fun (r3 : Bool × ow_I) => if r3.1 then (true, r3.2) else M_failsAtSetup_L20 m 7 r3.2 )))
set_option maxRecDepth 100000 in
set_option maxHeartbeats 400000 in
theorem cM_failsAtSetup {S : Nat → Option ow_Sh} {I : ow_I} {V : Nat → Nat → Value} {z : Nat} {m : Nat} (h_m : md_S S m) (hl : 0 ≤ I m 5) (hlb : tn (I m 5) ≤ 500) : ow_Cf yX11_failsAtSetup cX11_failsAtSetup 1 (some .boolean) 7 [.ref m] (S, I, V, z) (some (.int (bi ((M_failsAtSetup m I).1)))) (S, (M_failsAtSetup m I).2, V, z) := by
  refine ow_Cf.of rfl (Nat.le_of_ble_eq_true rfl) (fun X K E F hk => ?_)
  have E : ow_E X RX11 cX11_failsAtSetup 1 (ow_rm 7 0 0) := E
  refine or_lv [(0, .ref m)] rfl ?_
  have L37 : ∀ (n : Nat) (I : ow_I)  (hw : md_W m I) (hB : md_B (I (m + 1))) (h1 : 1 ≤ tn (I (m + 1) 6)) (hm : 20 - tn (I (m + 1) 7) < n) (hk : K (some (.int (bi ((M_failsAtSetup_L37 m n I ).1)))) (S, (M_failsAtSetup_L37 m n I ).2, V, z)), ow_W X 0 0 (S, I, V, z) 37 [(0, .ref m)] [] := by
    intro n
    induction n with
    | zero => intro I  hw hB h1 hm; omega
    | succ n ih =>
      intro I  hw hB h1 hm hk
      dsimp only [M_failsAtSetup_L37] at hk
      refine or_aload_n E rfl dX11_failsAtSetup_37 ?_
      refine or_cV0r (cM_wordOf  h_m hw) E lk_11_223 dX11_failsAtSetup_38 h_m.1 rfl rfl (by decide) (by decide) ⟨Nat.le_refl _, Nat.le_refl _⟩ (Nat.le_of_ble_eq_true rfl) ?_
      refine or_iconst (v := nI 2) E rfl dX11_failsAtSetup_41 ?_
      refine or_icmp_ne 54 E dX11_failsAtSetup_42 rfl (fun q42 => ?_) (fun q42 => ?_)
      · replace hk := ite_n (P := fun r : Bool × ow_I => K (some (.int (bi ((r).1)))) (S, (r).2, V, z)) q42 hk
        refine or_aload_n E rfl dX11_failsAtSetup_54 ?_
        refine ot_getI E fl_11_196 dX11_failsAtSetup_55 h_m.1 rfl ?_
        refine or_if_eq 73 E dX11_failsAtSetup_58 rfl (fun q58 => ?_) (fun q58 => ?_)
        · replace hk := ite_p (P := fun r : Bool × ow_I => K (some (.int (bi ((r).1)))) (S, (r).2, V, z)) q58 hk
          refine or_iconst (v := nI 0) E rfl dX11_failsAtSetup_73 ?_
          try dsimp only at hk
          exact or_zret E F dX11_failsAtSetup_74 (Nat.le_refl _) (Nat.le_refl _) (bi_nar false) hk
        · replace hk := ite_n (P := fun r : Bool × ow_I => K (some (.int (bi ((r).1)))) (S, (r).2, V, z)) q58 hk
          refine or_aload_n E rfl dX11_failsAtSetup_61 ?_
          refine or_iconst (v := nI 1) E rfl dX11_failsAtSetup_62 ?_
          refine or_cV1r (cM_fails  h_m ) E lk_11_214 dX11_failsAtSetup_63 h_m.1 rfl rfl (by decide) (by decide) ⟨Nat.le_refl _, Nat.le_refl _⟩ (Nat.le_of_ble_eq_true rfl) ?_
          obtain ⟨r4, hr4⟩ : ∃ y_ : Bool × ow_I, y_ = M_fails m (nI 1) I := ⟨_, rfl⟩
          replace hk := lt_k (P := fun r : Bool × ow_I => K (some (.int (bi ((r).1)))) (S, (r).2, V, z)) hr4 hk
          refine or_nmZ hr4 ?_
          refine or_if_eqZ 73 E dX11_failsAtSetup_66 rfl (fun q66 => ?_) (fun q66 => ?_)
          · replace hk := ite_n (P := fun r : Bool × ow_I => K (some (.int (bi ((r).1)))) (S, (r).2, V, z)) (bz_neg q66) hk
            refine or_iconst (v := nI 0) E rfl dX11_failsAtSetup_73 ?_
            try dsimp only at hk
            exact or_zret E F dX11_failsAtSetup_74 (Nat.le_refl _) (Nat.le_refl _) (bi_nar false) hk
          · replace hk := ite_p (P := fun r : Bool × ow_I => K (some (.int (bi ((r).1)))) (S, (r).2, V, z)) q66 hk
            refine or_iconst (v := nI 1) E rfl dX11_failsAtSetup_69 ?_
            refine or_goto 74 E dX11_failsAtSetup_70 rfl ?_
            try dsimp only at hk
            exact or_zret E F dX11_failsAtSetup_74 (Nat.le_refl _) (Nat.le_refl _) (bi_nar true) hk
      · replace hk := ite_p (P := fun r : Bool × ow_I => K (some (.int (bi ((r).1)))) (S, (r).2, V, z)) q42 hk
        refine or_aload_n E rfl dX11_failsAtSetup_45 ?_
        refine or_cV0r (cM_failsAtFirstBarrel  h_m hw hB) E lk_11_247 dX11_failsAtSetup_46 h_m.1 rfl rfl (by decide) (by decide) ⟨Nat.le_refl _, Nat.le_refl _⟩ (Nat.le_of_ble_eq_true rfl) ?_
        obtain ⟨r5, hr5⟩ : ∃ y_ : Bool × ow_I, y_ = M_failsAtFirstBarrel m I := ⟨_, rfl⟩
        replace hk := lt_k (P := fun r : Bool × ow_I => K (some (.int (bi ((r).1)))) (S, (r).2, V, z)) hr5 hk
        refine or_nmZ hr5 ?_
        refine or_if_eqZ 37 E dX11_failsAtSetup_49 rfl (fun q49 => ?_) (fun q49 => ?_)
        · replace hk := ite_n (P := fun r : Bool × ow_I => K (some (.int (bi ((r).1)))) (S, (r).2, V, z)) (bz_neg q49) hk
          refine or_lv _ ?_ (ih _  (by subst hr5; exact (W_1st hw)) (by subst hr5; exact (B_1st hB q49).1) (by subst hr5; rw [(B_1st hB q49).2.2]; exact h1) (by subst hr5; have := (B_1st hB q49).1.2.2.1.2; rw [(B_1st hB q49).2.1] at this ⊢; omega) hk)
          rfl
        · replace hk := ite_p (P := fun r : Bool × ow_I => K (some (.int (bi ((r).1)))) (S, (r).2, V, z)) q49 hk
          refine or_iconst (v := nI 1) E rfl dX11_failsAtSetup_52 ?_
          try dsimp only at hk
          exact or_zret E F dX11_failsAtSetup_53 (Nat.le_refl _) (Nat.le_refl _) (bi_nar true) hk
  have L20 : ∀ (n : Nat) (I : ow_I)  (hw : md_W m I) (hB : md_B (I (m + 1))) (h1 : 1 ≤ tn (I (m + 1) 6)) (hm : 6 - tn (I (m + 1) 6) < n) (hk : K (some (.int (bi ((M_failsAtSetup_L20 m n I ).1)))) (S, (M_failsAtSetup_L20 m n I ).2, V, z)), ow_W X 0 0 (S, I, V, z) 20 [(0, .ref m)] [] := by
    intro n
    induction n with
    | zero => intro I  hw hB h1 hm; omega
    | succ n ih =>
      intro I  hw hB h1 hm hk
      dsimp only [M_failsAtSetup_L20] at hk
      refine or_aload_n E rfl dX11_failsAtSetup_20 ?_
      refine or_cV0r (cM_wordOf  h_m hw) E lk_11_223 dX11_failsAtSetup_21 h_m.1 rfl rfl (by decide) (by decide) ⟨Nat.le_refl _, Nat.le_refl _⟩ (Nat.le_of_ble_eq_true rfl) ?_
      refine or_iconst (v := nI 1) E rfl dX11_failsAtSetup_24 ?_
      refine or_icmp_ne 37 E dX11_failsAtSetup_25 rfl (fun q25 => ?_) (fun q25 => ?_)
      · replace hk := ite_n (P := fun r : Bool × ow_I => K (some (.int (bi ((r).1)))) (S, (r).2, V, z)) q25 hk
        refine or_lv _ ?_ (L37 21 _  hw hB h1 (by omega) hk)
        rfl
      · replace hk := ite_p (P := fun r : Bool × ow_I => K (some (.int (bi ((r).1)))) (S, (r).2, V, z)) q25 hk
        refine or_aload_n E rfl dX11_failsAtSetup_28 ?_
        refine or_cV0r (cM_failsAtBuyer  h_m hw hB.2.1.1 hB.2.1.2) E lk_11_244 dX11_failsAtSetup_29 h_m.1 rfl rfl (by decide) (by decide) ⟨Nat.le_refl _, Nat.le_refl _⟩ (Nat.le_of_ble_eq_true rfl) ?_
        obtain ⟨r6, hr6⟩ : ∃ y_ : Bool × ow_I, y_ = M_failsAtBuyer m I := ⟨_, rfl⟩
        replace hk := lt_k (P := fun r : Bool × ow_I => K (some (.int (bi ((r).1)))) (S, (r).2, V, z)) hr6 hk
        refine or_nmZ hr6 ?_
        refine or_if_eqZ 20 E dX11_failsAtSetup_32 rfl (fun q32 => ?_) (fun q32 => ?_)
        · replace hk := ite_n (P := fun r : Bool × ow_I => K (some (.int (bi ((r).1)))) (S, (r).2, V, z)) (bz_neg q32) hk
          refine or_lv _ ?_ (ih _  (by subst hr6; exact (W_byr hw)) (by subst hr6; exact (B_byr hB).1) (by subst hr6; rw [byr_6 hB q32]; omega) (by subst hr6; have := (B_byr hB).1.2.1.2; rw [byr_6 hB q32] at this ⊢; omega) hk)
          rfl
        · replace hk := ite_p (P := fun r : Bool × ow_I => K (some (.int (bi ((r).1)))) (S, (r).2, V, z)) q32 hk
          refine or_iconst (v := nI 1) E rfl dX11_failsAtSetup_35 ?_
          try dsimp only at hk
          exact or_zret E F dX11_failsAtSetup_36 (Nat.le_refl _) (Nat.le_refl _) (bi_nar true) hk
  dsimp only [M_failsAtSetup] at hk
  refine or_aload_n E rfl dX11_failsAtSetup_0 ?_
  refine or_cV0v (cM_beginText  h_m hl hlb) E lk_11_238 dX11_failsAtSetup_1 h_m.1 rfl rfl (by decide) (by decide) ⟨Nat.le_refl _, Nat.le_refl _⟩ (Nat.le_of_ble_eq_true rfl) ?_
  obtain ⟨I1, hI1⟩ : ∃ y_ : ow_I, y_ = M_beginText m I := ⟨_, rfl⟩
  replace hk := lt_k (P := fun r : Bool × ow_I => K (some (.int (bi ((r).1)))) (S, (r).2, V, z)) hI1 hk
  refine or_nmI hI1 ?_
  refine or_aload_n E rfl dX11_failsAtSetup_4 ?_
  refine or_cV0r (cM_failsAtMarket  h_m (by subst hI1; exact (W_tx hl hlb))) E lk_11_241 dX11_failsAtSetup_5 h_m.1 rfl rfl (by decide) (by decide) ⟨Nat.le_refl _, Nat.le_refl _⟩ (Nat.le_of_ble_eq_true rfl) ?_
  obtain ⟨r2, hr2⟩ : ∃ y_ : Bool × ow_I, y_ = M_failsAtMarket m I1 := ⟨_, rfl⟩
  replace hk := lt_k (P := fun r : Bool × ow_I => K (some (.int (bi ((r).1)))) (S, (r).2, V, z)) hr2 hk
  refine or_nmZ hr2 ?_
  refine or_if_neZ 18 E dX11_failsAtSetup_8 rfl (fun q8 => ?_) (fun q8 => ?_)
  · replace hk := ite_p (P := fun r : Bool × ow_I => K (some (.int (bi ((r).1)))) (S, (r).2, V, z)) q8 hk
    refine or_iconst (v := nI 1) E rfl dX11_failsAtSetup_18 ?_
    try dsimp only at hk
    exact or_zret E F dX11_failsAtSetup_19 (Nat.le_refl _) (Nat.le_refl _) (bi_nar true) hk
  · replace hk := ite_n (P := fun r : Bool × ow_I => K (some (.int (bi ((r).1)))) (S, (r).2, V, z)) (bz_neg q8) hk
    refine or_aload_n E rfl dX11_failsAtSetup_11 ?_
    refine or_cV0r (cM_failsAtBuyer  h_m (by subst hr2 hI1; exact (W_mkt (W_tx hl hlb))) (by subst hr2 hI1; exact (B_mkt q8).1.2.1.1) (by subst hr2 hI1; exact (B_mkt q8).1.2.1.2)) E lk_11_244 dX11_failsAtSetup_12 h_m.1 rfl rfl (by decide) (by decide) ⟨Nat.le_refl _, Nat.le_refl _⟩ (Nat.le_of_ble_eq_true rfl) ?_
    obtain ⟨r3, hr3⟩ : ∃ y_ : Bool × ow_I, y_ = M_failsAtBuyer m r2.2 := ⟨_, rfl⟩
    replace hk := lt_k (P := fun r : Bool × ow_I => K (some (.int (bi ((r).1)))) (S, (r).2, V, z)) hr3 hk
    refine or_nmZ hr3 ?_
    refine or_if_eqZ 20 E dX11_failsAtSetup_15 rfl (fun q15 => ?_) (fun q15 => ?_)
    · replace hk := ite_n (P := fun r : Bool × ow_I => K (some (.int (bi ((r).1)))) (S, (r).2, V, z)) (bz_neg q15) hk
      refine or_lv _ ?_ (L20 7 _  (by subst hr3 hr2 hI1; exact (W_byr (W_mkt (W_tx hl hlb)))) (by subst hr3 hr2 hI1; exact (B_byr (B_mkt q8).1).1) (by subst hr3 hr2 hI1; rw [byr_6 (B_mkt q8).1 q15]; omega) (by subst hr3 hr2 hI1; omega) hk)
      rfl
    · replace hk := ite_p (P := fun r : Bool × ow_I => K (some (.int (bi ((r).1)))) (S, (r).2, V, z)) q15 hk
      refine or_iconst (v := nI 1) E rfl dX11_failsAtSetup_18 ?_
      try dsimp only at hk
      exact or_zret E F dX11_failsAtSetup_19 (Nat.le_refl _) (Nat.le_refl _) (bi_nar true) hk
def M_failsAtBuyerNumber (m : Nat) (I : ow_I) : Bool × ow_I :=
  lt (M_failsAtNumber m 0 (nI 0) (I (m + 1) 6 - (nI 1)) I) (fun (r1 : Bool × ow_I) => (r1.1, r1.2))
set_option maxRecDepth 100000 in
set_option maxHeartbeats 400000 in
theorem cM_failsAtBuyerNumber {S : Nat → Option ow_Sh} {I : ow_I} {V : Nat → Nat → Value} {z : Nat} {m : Nat} (h_m : md_S S m) (ht : md_T m I) : ow_Cf yX11_failsAtBuyerNumber cX11_failsAtBuyerNumber 1 (some .boolean) 5 [.ref m] (S, I, V, z) (some (.int (bi ((M_failsAtBuyerNumber m I).1)))) (S, (M_failsAtBuyerNumber m I).2, V, z) := by
  refine ow_Cf.of rfl (Nat.le_of_ble_eq_true rfl) (fun X K E F hk => ?_)
  have E : ow_E X RX11 cX11_failsAtBuyerNumber 1 (ow_rm 5 0 0) := E
  refine or_lv [(0, .ref m)] rfl ?_
  dsimp only [M_failsAtBuyerNumber] at hk
  refine or_aload_n E rfl dX11_failsAtBuyerNumber_0 ?_
  refine or_iconst (v := nI 0) E rfl dX11_failsAtBuyerNumber_1 ?_
  refine or_iconst (v := nI 0) E rfl dX11_failsAtBuyerNumber_2 ?_
  refine or_aload_n E rfl dX11_failsAtBuyerNumber_3 ?_
  refine ot_getC E fl_11_7 dX11_failsAtBuyerNumber_4 h_m.1 rfl ?_
  refine or_bipush (v := nI 6) E rfl dX11_failsAtBuyerNumber_7 ?_
  refine ot_iald (j := 6) E dX11_failsAtBuyerNumber_9 h_m.2.1 rfl rfl (by omega) (Nat.le_of_ble_eq_true rfl) ?_
  refine or_iconst (v := nI 1) E rfl dX11_failsAtBuyerNumber_10 ?_
  refine or_isub E dX11_failsAtBuyerNumber_11 ?_
  refine or_cV3r (cM_failsAtNumber  h_m (by decide) ht) E lk_11_226 dX11_failsAtBuyerNumber_12 h_m.1 rfl rfl (by decide) (by decide) ⟨Nat.le_refl _, Nat.le_refl _⟩ (Nat.le_of_ble_eq_true rfl) ?_
  obtain ⟨r1, hr1⟩ : ∃ y_ : Bool × ow_I, y_ = M_failsAtNumber m 0 (nI 0) (I (m + 1) 6 - (nI 1)) I := ⟨_, rfl⟩
  replace hk := lt_k (P := fun r : Bool × ow_I => K (some (.int (bi ((r).1)))) (S, (r).2, V, z)) hr1 hk
  refine or_nmZ hr1 ?_
  try dsimp only at hk
  exact or_zret E F dX11_failsAtBuyerNumber_15 (Nat.le_refl _) (Nat.le_refl _) (bi_nar _) hk
def M_failsAtBarrelNumber (m : Nat) (I : ow_I) : Bool × ow_I :=
  lt (M_failsAtNumber m 0 (nI 0) (nI 19) I) (fun (r1 : Bool × ow_I) => (r1.1, r1.2))
set_option maxRecDepth 100000 in
set_option maxHeartbeats 400000 in
theorem cM_failsAtBarrelNumber {S : Nat → Option ow_Sh} {I : ow_I} {V : Nat → Nat → Value} {z : Nat} {m : Nat} (h_m : md_S S m) (ht : md_T m I) : ow_Cf yX11_failsAtBarrelNumber cX11_failsAtBarrelNumber 1 (some .boolean) 5 [.ref m] (S, I, V, z) (some (.int (bi ((M_failsAtBarrelNumber m I).1)))) (S, (M_failsAtBarrelNumber m I).2, V, z) := by
  refine ow_Cf.of rfl (Nat.le_of_ble_eq_true rfl) (fun X K E F hk => ?_)
  have E : ow_E X RX11 cX11_failsAtBarrelNumber 1 (ow_rm 5 0 0) := E
  refine or_lv [(0, .ref m)] rfl ?_
  dsimp only [M_failsAtBarrelNumber] at hk
  refine or_aload_n E rfl dX11_failsAtBarrelNumber_0 ?_
  refine or_iconst (v := nI 0) E rfl dX11_failsAtBarrelNumber_1 ?_
  refine or_iconst (v := nI 0) E rfl dX11_failsAtBarrelNumber_2 ?_
  refine or_bipush (v := nI 19) E rfl dX11_failsAtBarrelNumber_3 ?_
  refine or_cV3r (cM_failsAtNumber  h_m (by decide) ht) E lk_11_226 dX11_failsAtBarrelNumber_5 h_m.1 rfl rfl (by decide) (by decide) ⟨Nat.le_refl _, Nat.le_refl _⟩ (Nat.le_of_ble_eq_true rfl) ?_
  obtain ⟨r1, hr1⟩ : ∃ y_ : Bool × ow_I, y_ = M_failsAtNumber m 0 (nI 0) (nI 19) I := ⟨_, rfl⟩
  replace hk := lt_k (P := fun r : Bool × ow_I => K (some (.int (bi ((r).1)))) (S, (r).2, V, z)) hr1 hk
  refine or_nmZ hr1 ?_
  try dsimp only at hk
  exact or_zret E F dX11_failsAtBarrelNumber_8 (Nat.le_refl _) (Nat.le_refl _) (bi_nar _) hk
